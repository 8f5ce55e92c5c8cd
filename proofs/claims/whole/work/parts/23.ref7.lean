/-! ===== rows up to N ===== -/
section PW
variable {α : Type}
/-- g below n, f elsewhere -/
def pw (f g : Int → α) (n : Nat) : Int → α := fun k => if 0 ≤ k ∧ k < n then g k else f k
theorem pw_0 (f g : Int → α) : pw f g 0 = f := by
  funext k; unfold pw; rw [if_neg (by omega)]
theorem pw_s (f g : Int → α) (i : Nat) : fup (pw f g i) i (g i) = pw f g (i + 1) := by
  funext k; unfold fup pw
  by_cases h : k = i
  · subst h; rw [if_pos rfl, if_pos (by omega)]
  · rw [if_neg h]
    by_cases h2 : 0 ≤ k ∧ k < i
    · rw [if_pos h2, if_pos (by omega)]
    · rw [if_neg h2, if_neg (by omega)]
theorem pw_k {f g : Int → α} {i : Nat} (h : g i = f i) : pw f g i = pw f g (i + 1) := by
  rw [← pw_s, h]
  funext k; unfold fup pw
  by_cases hk : k = i
  · subst hk; rw [if_pos rfl, if_neg (by omega)]
  · rw [if_neg hk]
theorem pw_at (f g : Int → α) (i : Nat) : pw f g i i = f i := by unfold pw; rw [if_neg (by omega)]
theorem pw_hi {f g : Int → α} {n : Nat} {k : Int} (h : n ≤ k) : pw f g n k = f k := by unfold pw; rw [if_neg (by omega)]
theorem pw_lo {f g : Int → α} {n : Nat} {k : Int} (h0 : 0 ≤ k) (h : k < n) : pw f g n k = g k := by unfold pw; rw [if_pos ⟨h0, h⟩]
end PW
theorem wDF_s {σ : Hp} {a b : Nat} {r r' : Int → UInt64} {s s' : Int → UInt32} : wF (wD (wF (wD σ a r) b s) a r') b s' = wF (wD σ a r') b s' := by
  show (σ.1, σ.2.1, up1 (up1 σ.2.2.1 b s) b s', up1 (up1 σ.2.2.2 a r) a r') = (σ.1, σ.2.1, up1 σ.2.2.1 b s', up1 σ.2.2.2 a r')
  simp only [up1_up1]
theorem mf_mul2 {a b : UInt32} {K L : Nat} (ha : mf a K) (hb : mf b L) (hK : K ≤ 255) (hL : L ≤ 255) : mf (FP.fmul a b) (K + L - 129 + 3) := FP.Core.fmul_mag ha hb hK hL
theorem J.hp {m : Mt} {pc : Nat} {lv : List (Nat × PV)} {st : List PV} {σ σ' : Hp} {Q : Option PV → Hp → Prop} (h : J m pc lv st σ Q) (e : σ = σ') : J m pc lv st σ' Q := e ▸ h
section REF7
variable {σ : Hp} {Q : Option PV → Hp → Prop}
/-- the sums, where the kind is 2 -/
def gsm {α : Type} (A : Ar α) (kd fr tu : Int → Int) (r old : Int → α) : Int → α := fun m => if kd m = 2 then (gsum A fr tu r m 6).1 else old m
def raH (σ : Hp) (N : Nat) : Hp := wF (wD σ 115 (pw (hD σ 115) (gsm arD (hI σ 70) (hI σ 72) (hI σ 73) (hD σ 82) (hD σ 115)) N)) 116 (pw (hF σ 116) (gsm arF (hI σ 70) (hI σ 72) (hI σ 73) (hF σ 83) (hF σ 116)) N)
theorem raH_0 : raH σ 0 = σ := by unfold raH; rw [pw_0, pw_0, wD_id]; exact wF_id σ 116
theorem cM_rateAll {N : Nat} (hN : hI σ 69 0 = N ∧ N ≤ 20) (hc : ∀ m : Int, 0 ≤ m → m < N → CdR σ m ∧ inR (hI σ 70 m)) (hr : ∀ k : Int, 0 ≤ k → k < 20 → mg (hD σ 82 k) 1024 ∧ mf (hF σ 83 k) 128) (hQ : Q none (raH σ N)) : Sp mM_rateAll [vR 69] σ Q := by
  obtain ⟨hN, hN2⟩ := hN
  have loop : ∀ (n i : Nat), i ≤ N → N + 1 ≤ i + n → J mM_rateAll 2 [(0, vR 69), (1, vI i)] [] (raH σ i) Q := by
    intro n
    induction n with
    | zero => intro i h1 h2; exact absurd h2 (by omega)
    | succ n ih =>
      intro i h1 h2
      have eN : hI (raH σ i) 69 0 = N := hN
      have eK : hI (raH σ i) 70 = hI σ 70 := rfl
      have hci : i < N → CdR σ i ∧ inR (hI σ 70 i) := fun h => hc i (by omega) (by omega)
      have ih2 : i < N → J mM_rateAll 2 [(0, vR 69), (1, vI (i + 1))] [] (raH σ (i + 1)) Q := fun h => ih (i + 1) (by omega) (by omega)
      have yes : i < N → hI σ 70 i = 2 → raH σ (i + 1) = wF (wD (raH σ i) 115 (fup (hD (raH σ i) 115) i (gsum arD (hI σ 72) (hI σ 73) (hD σ 82) i 6).1)) 116 (fup (hF (raH σ i) 116) i (gsum arF (hI σ 72) (hI σ 73) (hF σ 83) i 6).1) := fun h hk => by
        unfold raH
        rw [wDF_s, ← pw_s, ← pw_s]
        unfold gsm
        rw [if_pos hk, if_pos hk]
        rfl
      have no : ¬ hI σ 70 i = 2 → raH σ i = raH σ (i + 1) := fun hk => by
        unfold raH
        rw [pw_k (i := i) (f := hD σ 115) (by unfold gsm; rw [if_neg hk]), pw_k (i := i) (f := hF σ 116) (by unfold gsm; rw [if_neg hk])]
      refine j_iload_n (p2 := 3) dM_rateAll_2 rfl rfl ?_
      refine j_aload_n (p2 := 4) dM_rateAll_3 rfl rfl ?_
      refine j_getIk (p2 := 7) dM_rateAll_4 rfl fa_M_158 ly_69 rfl (ki := 0) rfl ?_
      refine j_icmp_ge (p2 := 10) (tg := 48) dM_rateAll_7 rfl (by decide) (by constructor <;> omega) (by rw [eN]; constructor <;> omega) (fun h7 => ?_) (fun h7 => ?_)
      · refine j_return dM_rateAll_48 rfl (by rw [eN] at h7; have e : i = N := (by omega); subst e; exact hQ)
      · refine j_aload_n (p2 := 11) dM_rateAll_10 rfl rfl ?_
        refine j_getR (p2 := 14) dM_rateAll_11 rfl fa_M_7 ly_69 rfl ?_
        refine j_iload_n (p2 := 15) dM_rateAll_14 rfl rfl ?_
        refine j_iald (p2 := 16) dM_rateAll_15 rfl ly_70 (by decide) (by omega) (by rw [eN] at h7; omega) ?_
        refine j_iconst (p2 := 17) dM_rateAll_16 rfl ?_
        refine j_icmp_ne (p2 := 20) (tg := 42) dM_rateAll_17 rfl (by decide) (by rw [eN] at h7; rw [eK]; exact (hci (by omega)).2) (by constructor <;> omega) (fun h17 => ?_) (fun h17 => ?_)
        · refine j_iinc (p2 := 45) (lv' := [(0, _), (1, _)]) dM_rateAll_42 rfl (Nat.le_of_ble_eq_true rfl) rfl ⟨rfl, rfl, trivial⟩ ?_
          refine j_goto (p2 := 2) dM_rateAll_45 (by decide) ?_
          refine J.loc (lv' := [(0, _), (1, _)]) ⟨rfl, rfl, trivial⟩ ?_
          rw [eN] at h7
          rw [eK] at h17
          first
            | exact (ih2 (by omega)).hp (no (by omega)).symm
            | exact (ih2 (by omega)).hp (yes (by omega) (by omega))
        · refine j_aload_n (p2 := 21) dM_rateAll_20 rfl rfl ?_
          refine j_getR (p2 := 24) dM_rateAll_21 rfl fa_M_152 ly_69 rfl ?_
          refine j_iload_n (p2 := 25) dM_rateAll_24 rfl rfl ?_
          refine j_aload_n (p2 := 26) dM_rateAll_25 rfl rfl ?_
          refine j_iload_n (p2 := 27) dM_rateAll_26 rfl rfl ?_
          refine j_callV (m' := mM_sum) (As := [_]) (p2 := 30) dM_rateAll_27 rfl ml_M_264 ok_mM_sum im_mM_sum se_mM_sum rfl rfl (Nat.le_of_ble_eq_true rfl) ly_69 rfl (Nat.le_of_ble_eq_true rfl) ⟨(Nat.le_of_ble_eq_true rfl), (Nat.le_of_ble_eq_true rfl)⟩ ?_
          refine cM_sum (σ := raH σ i) (by rw [eN] at h7; omega) (by rw [eN] at h7; exact (hci (by omega)).1) (fun k h0 h1 => (hr k h0 h1).1) ?_
          refine j_dastk (p2 := 31) dM_rateAll_30 rfl ly_115 (by decide) (by omega) (by rw [eN] at h7; omega) ?_
          refine j_aload_n (p2 := 32) dM_rateAll_31 rfl rfl ?_
          refine j_getR (p2 := 35) dM_rateAll_32 rfl fa_M_155 ly_69 rfl ?_
          refine j_iload_n (p2 := 36) dM_rateAll_35 rfl rfl ?_
          refine j_aload_n (p2 := 37) dM_rateAll_36 rfl rfl ?_
          refine j_iload_n (p2 := 38) dM_rateAll_37 rfl rfl ?_
          refine j_callV (m' := mM_sumF) (As := [_]) (p2 := 41) dM_rateAll_38 rfl ml_M_276 ok_mM_sumF im_mM_sumF se_mM_sumF rfl rfl (Nat.le_of_ble_eq_true rfl) ly_69 rfl (Nat.le_of_ble_eq_true rfl) ⟨(Nat.le_of_ble_eq_true rfl), (Nat.le_of_ble_eq_true rfl)⟩ ?_
          refine cM_sumF (by rw [eN] at h7; omega) (by rw [eN] at h7; exact (hci (by omega)).1) (fun k h0 h1 => (hr k h0 h1).2) ?_
          refine j_fastk (p2 := 42) dM_rateAll_41 rfl ly_116 (by decide) (by omega) (by rw [eN] at h7; omega) ?_
          refine j_iinc (p2 := 45) (lv' := [(0, _), (1, _)]) dM_rateAll_42 rfl (Nat.le_of_ble_eq_true rfl) rfl ⟨rfl, rfl, trivial⟩ ?_
          refine j_goto (p2 := 2) dM_rateAll_45 (by decide) ?_
          refine J.loc (lv' := [(0, _), (1, _)]) ⟨rfl, rfl, trivial⟩ ?_
          rw [eN] at h7
          rw [eK] at h17
          first
            | exact (ih2 (by omega)).hp (no (by omega)).symm
            | exact (ih2 (by omega)).hp (yes (by omega) (by omega))
  refine j_iconst (p2 := 1) dM_rateAll_0 rfl ?_
  refine j_istore_n (p2 := 2) (lv' := [(0, _), (1, _)]) dM_rateAll_1 rfl (Nat.le_of_ble_eq_true rfl) ⟨rfl, rfl, trivial⟩ ?_
  refine J.loc (lv' := [(0, _), (1, _)]) ⟨rfl, rfl, trivial⟩ ?_
  exact (loop (N + 1) 0 (by omega) (by omega)).hp raH_0
/-- the state of module m, moved -/
def gmv {α : Type} (A : Ar α) (h : α) (bf ra : Int → α) (m : Int) : α × Bool := gaft A (Aadd A (bf m) (Amul A h (ra m)))
def gmvS {α : Type} (A : Ar α) (kd : Int → Int) (h : α) (bf ra st : Int → α) : Int → α := fun m => if kd m = 2 then (gmv A h bf ra m).1 else st m
def gmvB {α : Type} (A : Ar α) (kd : Int → Int) (h : α) (bf ra : Int → α) : Int → Bool := fun m => decide (kd m = 2) && (gmv A h bf ra m).2
def sgH (σ : Hp) (t : UInt64) (N : Nat) : Hp := wI (wF (wD σ 80 (pw (hD σ 80) (gmvS arD (hI σ 70) t (hD σ 108) (hD σ 115) (hD σ 80)) N)) 81 (pw (hF σ 81) (gmvS arF (hI σ 70) (FP.d2f t) (hF σ 112) (hF σ 116) (hF σ 81)) N)) 87
  (lms (hI σ 87) (hI σ 69 44) (fun k => pw (fun _ => false) (gmvB arD (hI σ 70) t (hD σ 108) (hD σ 115)) N k || pw (fun _ => false) (gmvB arF (hI σ 70) (FP.d2f t) (hF σ 112) (hF σ 116)) N k))
theorem sgH_L {t : UInt64} {N : Nat} : hI (sgH σ t N) 87 = lms (hI σ 87) (hI σ 69 44) (fun k => pw (fun _ => false) (gmvB arD (hI σ 70) t (hD σ 108) (hD σ 115)) N k || pw (fun _ => false) (gmvB arF (hI σ 70) (FP.d2f t) (hF σ 112) (hF σ 116)) N k) := rfl
theorem sgH_0 {t : UInt64} : sgH σ t 0 = σ := by
  unfold sgH
  rw [pw_0, pw_0, pw_0, pw_0]
  show wI (wF (wD σ 80 (hD σ 80)) 81 (hF σ 81)) 87 (lms (hI σ 87) (hI σ 69 44) (fun _ => false)) = σ
  rw [lms_0, wD_id]
  rw [show wF σ 81 (hF σ 81) = σ from wF_id σ 81, wI_id]
theorem sg_step {a b : Int → UInt64} {c d : Int → UInt32} {lm l1 l2 : Int → Int} : wF (wI (wD (wI (wI (wF (wD σ 80 a) 81 c) 87 lm) 87 l1) 80 b) 87 l2) 81 d = wI (wF (wD σ 80 b) 81 d) 87 l2 := by
  show (up1 (up1 (up1 σ.1 87 lm) 87 l1) 87 l2, σ.2.1, up1 (up1 σ.2.2.1 81 c) 81 d, up1 (up1 σ.2.2.2 80 a) 80 b) = (up1 σ.1 87 l2, σ.2.1, up1 σ.2.2.1 81 d, up1 σ.2.2.2 80 b)
  simp only [up1_up1]
theorem cM_stage {N : Nat} {t : UInt64} (ht : mg t 1024) (hN : hI σ 69 0 = N ∧ N ≤ 20) (hc : ∀ m : Int, 0 ≤ m → m < N → inR (hI σ 70 m) ∧ inR (hI σ 87 m)) (hl : inR (hI σ 69 44))
    (hr : ∀ k : Int, 0 ≤ k → k < N → hI σ 70 k = 2 → mg (hD σ 108 k) 1024 ∧ mf (hF σ 112 k) 128 ∧ mg (hD σ 115 k) 1060 ∧ mf (hF σ 116 k) 160) (hQ : Q none (sgH σ t N)) : Sp mM_stage [vR 69, vD t] σ Q := by
  obtain ⟨hN, hN2⟩ := hN
  have htf : mf (FP.d2f t) 129 := d2f_mf ht
  have loop : ∀ (n i : Nat), i ≤ N → N + 1 ≤ i + n → J mM_stage 6 [(0, vR 69), (1, vD t), (3, vF (FP.d2f t)), (4, vI i)] [] (sgH σ t i) Q := by
    intro n
    induction n with
    | zero => intro i h1 h2; exact absurd h2 (by omega)
    | succ n ih =>
      intro i h1 h2
      have eN : hI (sgH σ t i) 69 0 = N := hN
      have eK : hI (sgH σ t i) 70 = hI σ 70 := rfl
      have hci : i < N → inR (hI σ 70 i) ∧ inR (hI σ 87 i) := fun h => hc i (by omega) (by omega)
      have hl0 : i < N → inR (hI (sgH σ t i) 87 i) := fun h => by
        rw [sgH_L]
        exact lms_inR (hci h).2 hl
      have ih2 : i < N → J mM_stage 6 [(0, vR 69), (1, vD t), (3, vF (FP.d2f t)), (4, vI (i + 1))] [] (sgH σ t (i + 1)) Q := fun h => ih (i + 1) (by omega) (by omega)
      have ob : i < N → hI σ 70 i = 2 → vf_n64 (FP.dmul t (hD σ 115 i)) ∧ vf_n64 (FP.dadd (hD σ 108 i) (FP.dmul t (hD σ 115 i))) ∧ vf_n32 (FP.fmul (FP.d2f t) (hF σ 116 i)) ∧ vf_n32 (FP.fadd (hF σ 112 i) (FP.fmul (FP.d2f t) (hF σ 116 i))) := fun h hk => by
        obtain ⟨r1, r2, r3, r4⟩ := hr i (by omega) (by omega) hk
        have q1 := (mg_mul ht r3 (by decide) (by decide)).mono (show _ ≤ 1100 by decide)
        have q2 := mf_mul2 htf r4 (by decide) (by decide)
        exact ⟨q1.nn (by decide), (mg_add (r1.mono (show _ ≤ 1100 by decide)) q1 (by decide)).nn (by decide), q2.nn (by decide), (mf_add (r2.mono (show _ ≤ 180 by decide)) (q2.mono (by decide)) (by decide)).nn (by decide)⟩
      have yes : i < N → hI σ 70 i = 2 → sgH σ t (i + 1) = wF (wI (wD (wI (sgH σ t i) 87 (lmp (hI (sgH σ t i) 87) i (hI σ 69 44) (gmv arD t (hD σ 108) (hD σ 115) i).2)) 80 (fup (hD (sgH σ t i) 80) i (gmv arD t (hD σ 108) (hD σ 115) i).1)) 87 (lmp (lmp (hI (sgH σ t i) 87) i (hI σ 69 44) (gmv arD t (hD σ 108) (hD σ 115) i).2) i (hI σ 69 44) (gmv arF (FP.d2f t) (hF σ 112) (hF σ 116) i).2)) 81 (fup (hF (sgH σ t i) 81) i (gmv arF (FP.d2f t) (hF σ 112) (hF σ 116) i).1) := fun h hk => by
        unfold sgH
        rw [sg_step]
        show _ = wI (wF (wD σ 80 (fup (pw _ _ i) i _)) 81 (fup (pw _ _ i) i _)) 87 (lmp (lmp (lms _ _ _) i _ _) i _ _)
        rw [lmp_lms, lmp_lms, ← pw_s, ← pw_s, ← pw_s, ← pw_s]
        have e1 : gmvS arD (hI σ 70) t (hD σ 108) (hD σ 115) (hD σ 80) i = (gmv arD t (hD σ 108) (hD σ 115) i).1 := if_pos hk
        have e2 : gmvS arF (hI σ 70) (FP.d2f t) (hF σ 112) (hF σ 116) (hF σ 81) i = (gmv arF (FP.d2f t) (hF σ 112) (hF σ 116) i).1 := if_pos hk
        have e3 : gmvB arD (hI σ 70) t (hD σ 108) (hD σ 115) i = (gmv arD t (hD σ 108) (hD σ 115) i).2 := by unfold gmvB; rw [decide_eq_true hk, Bool.true_and]
        have e4 : gmvB arF (hI σ 70) (FP.d2f t) (hF σ 112) (hF σ 116) i = (gmv arF (FP.d2f t) (hF σ 112) (hF σ 116) i).2 := by unfold gmvB; rw [decide_eq_true hk, Bool.true_and]
        rw [e1, e2, e3, e4]
        apply congrArg
        apply congrArg
        funext k
        unfold fup
        by_cases hk2 : k = i
        · subst hk2
          simp only [if_true, pw_at]
          rfl
        · simp only [if_neg hk2]
      have no : ¬ hI σ 70 i = 2 → sgH σ t i = sgH σ t (i + 1) := fun hk => by
        unfold sgH
        rw [pw_k (i := i) (f := hD σ 80) (if_neg hk), pw_k (i := i) (f := hF σ 81) (if_neg hk), pw_k (i := i) (g := gmvB arD (hI σ 70) t (hD σ 108) (hD σ 115)) (by unfold gmvB; rw [decide_eq_false hk]; rfl), pw_k (i := i) (g := gmvB arF (hI σ 70) (FP.d2f t) (hF σ 112) (hF σ 116)) (by unfold gmvB; rw [decide_eq_false hk]; rfl)]
      refine j_iload (p2 := 8) dM_stage_6 rfl rfl ?_
      refine j_aload_n (p2 := 9) dM_stage_8 rfl rfl ?_
      refine j_getIk (p2 := 12) dM_stage_9 rfl fa_M_158 ly_69 rfl (ki := 0) rfl ?_
      refine j_icmp_ge (p2 := 15) (tg := 100) dM_stage_12 rfl (by decide) (by constructor <;> omega) (by rw [eN]; constructor <;> omega) (fun h12 => ?_) (fun h12 => ?_)
      · refine j_return dM_stage_100 rfl (by rw [eN] at h12; have e : i = N := (by omega); subst e; exact hQ)
      · refine j_aload_n (p2 := 16) dM_stage_15 rfl rfl ?_
        refine j_getR (p2 := 19) dM_stage_16 rfl fa_M_7 ly_69 rfl ?_
        refine j_iload (p2 := 21) dM_stage_19 rfl rfl ?_
        refine j_iald (p2 := 22) dM_stage_21 rfl ly_70 (by decide) (by omega) (by rw [eN] at h12; omega) ?_
        refine j_iconst (p2 := 23) dM_stage_22 rfl ?_
        refine j_icmp_ne (p2 := 26) (tg := 94) dM_stage_23 rfl (by decide) (by rw [eN] at h12; rw [eK]; exact (hci (by omega)).1) (by constructor <;> omega) (fun h23 => ?_) (fun h23 => ?_)
        · refine j_iinc (p2 := 97) (lv' := [(0, _), (1, _), (3, _), (4, _)]) dM_stage_94 rfl (Nat.le_of_ble_eq_true rfl) rfl ⟨rfl, rfl, rfl, rfl, trivial⟩ ?_
          refine j_goto (p2 := 6) dM_stage_97 (by decide) ?_
          refine J.loc (lv' := [(0, _), (1, _), (3, _), (4, _)]) ⟨rfl, rfl, rfl, rfl, trivial⟩ ?_
          rw [eN] at h12
          rw [eK] at h23
          exact (ih2 (by omega)).hp (no h23).symm
        · refine J.loc (lv' := [(0, _), (1, _), (3, _), (4, _)]) ⟨rfl, rfl, rfl, rfl, trivial⟩ ?_
          rw [eN] at h12
          rw [eK] at h23
          have h23 : hI σ 70 i = 2 := by omega
          refine j_dload_n (p2 := 27) dM_stage_26 rfl rfl ?_
          refine j_aload_n (p2 := 28) dM_stage_27 rfl rfl ?_
          refine j_getR (p2 := 31) dM_stage_28 rfl fa_M_152 ly_69 rfl ?_
          refine j_iload (p2 := 33) dM_stage_31 rfl rfl ?_
          refine j_dald (p2 := 34) dM_stage_33 rfl ly_115 (by decide) (by omega) (by omega) ?_
          refine j_dmul (p2 := 35) dM_stage_34 rfl (ob (by omega) h23).1 ?_
          refine j_dstore (p2 := 37) (lv' := [(0, _), (1, _), (3, _), (4, _), (5, _)]) dM_stage_35 rfl (Nat.le_of_ble_eq_true rfl) ⟨rfl, rfl, rfl, rfl, rfl, trivial⟩ ?_
          refine j_fload_n (p2 := 38) dM_stage_37 rfl rfl ?_
          refine j_aload_n (p2 := 39) dM_stage_38 rfl rfl ?_
          refine j_getR (p2 := 42) dM_stage_39 rfl fa_M_155 ly_69 rfl ?_
          refine j_iload (p2 := 44) dM_stage_42 rfl rfl ?_
          refine j_fald (p2 := 45) dM_stage_44 rfl ly_116 (by decide) (by omega) (by omega) ?_
          refine j_fmul (p2 := 46) dM_stage_45 rfl (ob (by omega) h23).2.2.1 ?_
          refine j_fstore (p2 := 48) (lv' := [(0, _), (1, _), (3, _), (4, _), (5, _), (7, _)]) dM_stage_46 rfl (Nat.le_of_ble_eq_true rfl) ⟨rfl, rfl, rfl, rfl, rfl, rfl, trivial⟩ ?_
          refine j_aload_n (p2 := 49) dM_stage_48 rfl rfl ?_
          refine j_getR (p2 := 52) dM_stage_49 rfl fa_M_46 ly_69 rfl ?_
          refine j_iload (p2 := 54) dM_stage_52 rfl rfl ?_
          refine j_aload_n (p2 := 55) dM_stage_54 rfl rfl ?_
          refine j_iload (p2 := 57) dM_stage_55 rfl rfl ?_
          refine j_aload_n (p2 := 58) dM_stage_57 rfl rfl ?_
          refine j_getR (p2 := 61) dM_stage_58 rfl fa_M_131 ly_69 rfl ?_
          refine j_iload (p2 := 63) dM_stage_61 rfl rfl ?_
          refine j_dald (p2 := 64) dM_stage_63 rfl ly_108 (by decide) (by omega) (by omega) ?_
          refine j_dload (p2 := 66) dM_stage_64 rfl rfl ?_
          refine j_dadd (p2 := 67) dM_stage_66 rfl (ob (by omega) h23).2.1 ?_
          refine j_callV (m' := mM_after) (As := [_, _]) (p2 := 70) dM_stage_67 rfl ml_M_288 ok_mM_after im_mM_after se_mM_after rfl rfl (Nat.le_of_ble_eq_true rfl) ly_69 rfl (Nat.le_of_ble_eq_true rfl) ⟨(Nat.le_of_ble_eq_true rfl), (Nat.le_of_ble_eq_true rfl)⟩ ?_
          refine cM_after (σ := sgH σ t i) (by omega) (hl0 (by omega)) ?_
          refine j_dastk (p2 := 71) dM_stage_70 rfl ly_80 (by decide) (by omega) (by omega) ?_
          refine j_aload_n (p2 := 72) dM_stage_71 rfl rfl ?_
          refine j_getR (p2 := 75) dM_stage_72 rfl fa_M_49 ly_69 rfl ?_
          refine j_iload (p2 := 77) dM_stage_75 rfl rfl ?_
          refine j_aload_n (p2 := 78) dM_stage_77 rfl rfl ?_
          refine j_iload (p2 := 80) dM_stage_78 rfl rfl ?_
          refine j_aload_n (p2 := 81) dM_stage_80 rfl rfl ?_
          refine j_getR (p2 := 84) dM_stage_81 rfl fa_M_143 ly_69 rfl ?_
          refine j_iload (p2 := 86) dM_stage_84 rfl rfl ?_
          refine j_fald (p2 := 87) dM_stage_86 rfl ly_112 (by decide) (by omega) (by omega) ?_
          refine j_fload (p2 := 89) dM_stage_87 rfl rfl ?_
          refine j_fadd (p2 := 90) dM_stage_89 rfl (ob (by omega) h23).2.2.2 ?_
          refine j_callV (m' := mM_afterF) (As := [_, _]) (p2 := 93) dM_stage_90 rfl ml_M_294 ok_mM_afterF im_mM_afterF se_mM_afterF rfl rfl (Nat.le_of_ble_eq_true rfl) ly_69 rfl (Nat.le_of_ble_eq_true rfl) ⟨(Nat.le_of_ble_eq_true rfl), (Nat.le_of_ble_eq_true rfl)⟩ ?_
          refine cM_afterF (by omega) (lmp_inR (hl0 (by omega)) hl) ?_
          refine j_fastk (p2 := 94) dM_stage_93 rfl ly_81 (by decide) (by omega) (by omega) ?_
          refine j_iinc (p2 := 97) (lv' := [(0, _), (1, _), (3, _), (4, _)]) dM_stage_94 rfl (Nat.le_of_ble_eq_true rfl) rfl ⟨rfl, rfl, rfl, rfl, trivial⟩ ?_
          refine j_goto (p2 := 6) dM_stage_97 (by decide) ?_
          refine J.loc (lv' := [(0, _), (1, _), (3, _), (4, _)]) ⟨rfl, rfl, rfl, rfl, trivial⟩ ?_
          exact (ih2 (by omega)).hp (yes (by omega) h23)
  refine j_dload_n (p2 := 1) dM_stage_0 rfl rfl ?_
  refine j_d2f (p2 := 2) dM_stage_1 rfl (by exact htf.nn (by decide)) ?_
  refine j_fstore_n (p2 := 3) (lv' := [(0, _), (1, _), (3, _)]) dM_stage_2 rfl (Nat.le_of_ble_eq_true rfl) ⟨rfl, rfl, rfl, trivial⟩ ?_
  refine j_iconst (p2 := 4) dM_stage_3 rfl ?_
  refine j_istore (p2 := 6) (lv' := [(0, _), (1, _), (3, _), (4, _)]) dM_stage_4 rfl (Nat.le_of_ble_eq_true rfl) ⟨rfl, rfl, rfl, rfl, trivial⟩ ?_
  refine J.loc (lv' := [(0, _), (1, _), (3, _), (4, _)]) ⟨rfl, rfl, rfl, rfl, trivial⟩ ?_
  exact (loop (N + 1) 0 (by omega) (by omega)).hp sgH_0
end REF7
