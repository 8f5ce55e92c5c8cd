/-! ===== the reference: mode ===== -/
section REF28
variable {σ : Hp} {Q : Option PV → Hp → Prop} {N S : Nat}
def mdH (σ : Hp) (re : Int → Int) : Hp := wI (wI σ 104 re) 69 (fup (hI σ 69) 11 1)
def clH (σ : Hp) (S : Nat) : Hp := wI σ 101 (pw (hI σ 101) (fun _ => 0) S)
def moH (σ : Hp) (N S : Nat) (re : Int → Int) : Hp := tsH (clH (begH (mdH σ re) N) S) S
theorem begH_69 : hI (begH σ N) 69 = fup (fup (hI σ 69) 12 0) 44 0 := rfl
theorem cM_mode {m : Int} (hs : Sc σ) (hm : inR m) (hN : hI σ 69 0 = N) (hS : hI σ 69 37 = S) (hc : CdN (hI σ 72) N) (hk : ∀ m : Int, 0 ≤ m → m < N → (0 ≤ hI σ 70 m ∧ hI σ 70 m < 14) ∧ inR (hI σ 75 m)) (hr : RdR σ) (hz : Zr σ N) (hso : ∀ s : Int, 0 ≤ s → s < S → 0 ≤ hI σ 100 s ∧ hI σ 100 s < 20) (hp : (chk (hI σ 70) (hI σ 72) (hI σ 75) N).1 = 0 → WP σ N) (hcr : inR (chk (hI σ 70) (hI σ 72) (hI σ 75) N).1)
    (h1 : ¬ (0 ≤ m ∧ m ≤ 1) → Q (some (vI (-102))) σ) (h2 : m = 1 → ¬ (chk (hI σ 70) (hI σ 72) (hI σ 75) N).1 = 0 → ∀ re, Q (some (vI (-103))) (wI σ 104 re)) (h3 : m = 0 → Q (some (vI (hI σ 69 11))) (wI σ 69 (fup (hI σ 69) 11 0)))
    (h4 : m = 1 → (chk (hI σ 70) (hI σ 72) (hI σ 75) N).1 = 0 → ∀ re, WS (moH σ N S re) N → Zr (moH σ N S re) N → Q (some (vI (hI σ 69 11))) (moH σ N S re)) : Sp mM_mode [vR 69, vI m] σ Q := by
  obtain ⟨s1, s2, s3, s4⟩ := hs
  have loop : m = 1 → (chk (hI σ 70) (hI σ 72) (hI σ 75) N).1 = 0 → ∀ re, WS (begH (mdH σ re) N) N → Zr (begH (mdH σ re) N) N → ∀ (n i : Nat), i ≤ S → S + 1 ≤ i + n → J mM_mode 48 [(0, vR 69), (2, vI (hI σ 69 11)), (3, vI i)] [] (clH (begH (mdH σ re) N) i) Q := by
    intro e1 e2 re w z n
    have e37 : hI (begH (mdH σ re) N) 69 37 = S := by
      rw [begH_69, fup_n (by decide), fup_n (by decide)]
      show fup (hI σ 69) 11 1 37 = S
      rw [fup_n (by decide)]; exact hS
    have hq := h4 e1 e2 re w z
    unfold moH at hq
    have eso : ∀ i : Nat, hI (clH (begH (mdH σ re) N) i) 100 = hI σ 100 := fun i => rfl
    generalize begH (mdH σ re) N = τ at *
    induction n with
    | zero => intro i a b; exact absurd b (by omega)
    | succ n ih =>
      intro i a b
      have eS : hI (clH τ i) 69 37 = S := e37
      have ih2 : i < S → J mM_mode 48 [(0, vR 69), (2, vI (hI σ 69 11)), (3, vI (i + 1))] [] (wI (clH τ i) 101 (fup (hI (clH τ i) 101) i 0)) Q := fun h => by
        have := ih (i + 1) (by omega) (by omega)
        refine this.hp ?_
        unfold clH
        rw [wI_wI, ← pw_s]
        rfl
      refine j_iload_n (p2 := 49) dM_mode_48 rfl rfl ?_
      refine j_aload_n (p2 := 50) dM_mode_49 rfl rfl ?_
      refine j_getIk (p2 := 53) dM_mode_50 rfl fa_M_332 ly_69 rfl (ki := 37) rfl ?_
      refine j_icmp_ge (p2 := 56) (tg := 69) dM_mode_53 rfl (by decide) (by constructor <;> omega) (by rw [eS]; constructor <;> omega) (fun h53 => ?_) (fun h53 => ?_)
      · refine j_aload_n (p2 := 70) dM_mode_69 rfl rfl ?_
        refine j_callV (m' := mM_toStrips) (As := []) (p2 := 73) dM_mode_70 rfl ml_M_341 ok_mM_toStrips im_mM_toStrips se_mM_toStrips rfl rfl (Nat.le_of_ble_eq_true rfl) ly_69 rfl (Nat.le_of_ble_eq_true rfl) ⟨(Nat.le_of_ble_eq_true rfl), (Nat.le_of_ble_eq_true rfl)⟩ ?_
        rw [eS] at h53
        have e : i = S := by omega
        subst e
        refine cM_toStrips ⟨eS, by omega⟩ (fun s a b => ⟨?_, ?_⟩) ?_
        · have e0 : hI (clH τ i) 101 s = 0 := pw_lo (f := hI τ 101) (g := fun _ => 0) a b
          rw [e0]; omega
        · rw [eso i]; exact hso s a b
        refine j_iload_n (p2 := 74) dM_mode_73 rfl rfl ?_
        refine j_ireturn dM_mode_74 rfl (by exact hq)
      · refine j_aload_n (p2 := 57) dM_mode_56 rfl rfl ?_
        refine j_getR (p2 := 60) dM_mode_57 rfl fa_M_110 ly_69 rfl ?_
        refine j_iload_n (p2 := 61) dM_mode_60 rfl rfl ?_
        refine j_iconst (p2 := 62) dM_mode_61 rfl ?_
        refine j_iastk (p2 := 63) dM_mode_62 rfl ly_101 (by decide) (by omega) (by rw [eS] at h53; omega) ?_
        refine j_iinc (p2 := 66) (lv' := [(0, _), (2, _), (3, _)]) dM_mode_63 rfl (Nat.le_of_ble_eq_true rfl) rfl ⟨rfl, rfl, rfl, trivial⟩ ?_
        refine j_goto (p2 := 48) dM_mode_66 (by decide) ?_
        refine J.loc (lv' := [(0, _), (2, _), (3, _)]) ⟨rfl, rfl, rfl, trivial⟩ ?_
        rw [eS] at h53
        exact ih2 (by omega)
  have at42 : m = 1 → (chk (hI σ 70) (hI σ 72) (hI σ 75) N).1 = 0 → ∀ re, J mM_mode 42 [(0, vR 69), (2, vI (hI σ 69 11))] [] (mdH σ re) Q := by
    intro e1 e2 re
    have wp : WP (mdH σ re) N := by
      obtain ⟨a1, a2, a3, a4⟩ := hp e2
      exact ⟨a1, a2, a3, a4⟩
    refine j_aload_n (p2 := 43) dM_mode_42 rfl rfl ?_
    refine j_callV (m' := mM_beginAll) (As := []) (p2 := 46) dM_mode_43 rfl ml_M_338 ok_mM_beginAll im_mM_beginAll se_mM_beginAll rfl rfl (Nat.le_of_ble_eq_true rfl) ly_69 rfl (Nat.le_of_ble_eq_true rfl) ⟨(Nat.le_of_ble_eq_true rfl), (Nat.le_of_ble_eq_true rfl)⟩ ?_
    refine cM_beginAll wp hr hz (fun w z => ?_)
    refine j_iconst (p2 := 47) dM_mode_46 rfl ?_
    refine j_istore_n (p2 := 48) (lv' := [(0, _), (2, _), (3, _)]) dM_mode_47 rfl (Nat.le_of_ble_eq_true rfl) ⟨rfl, rfl, rfl, trivial⟩ ?_
    refine J.loc (lv' := [(0, _), (2, _), (3, _)]) ⟨rfl, rfl, rfl, trivial⟩ ?_
    have e0 : clH (begH (mdH σ re) N) 0 = begH (mdH σ re) N := by unfold clH; rw [pw_0, wI_id]
    exact (loop e1 e2 re w z (S + 1) 0 (by omega) (by omega)).hp e0
  refine j_iload_n (p2 := 1) dM_mode_0 rfl rfl ?_
  refine j_iconst (p2 := 2) dM_mode_1 rfl ?_
  refine j_iconst (p2 := 3) dM_mode_2 rfl ?_
  refine j_callS (m' := mM_in) (As := [_, _, _]) (p2 := 6) dM_mode_3 rfl ml_M_161 ok_mM_in sm_mM_in rfl rfl (Nat.le_of_ble_eq_true rfl) (Nat.le_of_ble_eq_true rfl) ⟨(Nat.le_of_ble_eq_true rfl), (Nat.le_of_ble_eq_true rfl)⟩ ?_
  refine cM_in hm (by constructor <;> omega) (by constructor <;> omega) ?_
  refine j_ifb_ne (p2 := 9) (tg := 12) dM_mode_6 rfl (by decide) (fun h6 => ?_) (fun h6 => ?_)
  · refine j_iload_n (p2 := 13) dM_mode_12 rfl rfl ?_
    refine j_iconst (p2 := 14) dM_mode_13 rfl ?_
    refine j_icmp_ne (p2 := 17) (tg := 27) dM_mode_14 rfl (by decide) (by constructor <;> omega) (by constructor <;> omega) (fun h14 => ?_) (fun h14 => ?_)
    · refine j_aload_n (p2 := 28) dM_mode_27 rfl rfl ?_
      refine j_getIk (p2 := 31) dM_mode_28 rfl fa_M_195 ly_69 rfl (ki := 11) rfl ?_
      refine j_istore_n (p2 := 32) (lv' := [(0, _), (1, _), (2, _)]) dM_mode_31 rfl (Nat.le_of_ble_eq_true rfl) ⟨rfl, rfl, rfl, trivial⟩ ?_
      refine j_aload_n (p2 := 33) dM_mode_32 rfl rfl ?_
      refine j_iload_n (p2 := 34) dM_mode_33 rfl rfl ?_
      refine j_putIk (p2 := 37) dM_mode_34 rfl fw_M_195 ly_69 rfl (ki := 11) rfl ?_
      refine j_iload_n (p2 := 38) dM_mode_37 rfl rfl ?_
      refine j_iconst (p2 := 39) dM_mode_38 rfl ?_
      refine j_icmp_ne (p2 := 42) (tg := 73) dM_mode_39 rfl (by decide) (by constructor <;> omega) (by constructor <;> omega) (fun h39 => ?_) (fun h39 => ?_)
      · refine j_iload_n (p2 := 74) dM_mode_73 rfl rfl ?_
        refine j_ireturn dM_mode_74 rfl (by first | (exfalso; exact h39 h14) | (have g := dec_t h6; have e1 : m = 0 := (by omega); subst e1; exact h3 rfl))
      · refine J.loc (lv' := [(0, _), (2, _)]) ⟨rfl, rfl, trivial⟩ ?_
        first
          | (exfalso; exact h14 h39)
          | (subst h39
             exact at42 rfl h21 re)
    · refine j_aload_n (p2 := 18) dM_mode_17 rfl rfl ?_
      refine j_callV (m' := mM_wrong) (As := []) (p2 := 21) dM_mode_18 rfl ml_M_335 ok_mM_wrong im_mM_wrong se_mM_wrong rfl rfl (Nat.le_of_ble_eq_true rfl) ly_69 rfl (Nat.le_of_ble_eq_true rfl) ⟨(Nat.le_of_ble_eq_true rfl), (Nat.le_of_ble_eq_true rfl)⟩ ?_
      refine cM_wrong ⟨hN, by omega⟩ hc hk (fun re => ?_)
      refine j_if_eq (p2 := 24) (tg := 27) dM_mode_21 rfl (by decide) (by exact hcr) (fun h21 => ?_) (fun h21 => ?_)
      · refine j_aload_n (p2 := 28) dM_mode_27 rfl rfl ?_
        refine j_getIk (p2 := 31) dM_mode_28 rfl fa_M_195 ly_69 rfl (ki := 11) rfl ?_
        refine j_istore_n (p2 := 32) (lv' := [(0, _), (1, _), (2, _)]) dM_mode_31 rfl (Nat.le_of_ble_eq_true rfl) ⟨rfl, rfl, rfl, trivial⟩ ?_
        refine j_aload_n (p2 := 33) dM_mode_32 rfl rfl ?_
        refine j_iload_n (p2 := 34) dM_mode_33 rfl rfl ?_
        refine j_putIk (p2 := 37) dM_mode_34 rfl fw_M_195 ly_69 rfl (ki := 11) rfl ?_
        refine j_iload_n (p2 := 38) dM_mode_37 rfl rfl ?_
        refine j_iconst (p2 := 39) dM_mode_38 rfl ?_
        refine j_icmp_ne (p2 := 42) (tg := 73) dM_mode_39 rfl (by decide) (by constructor <;> omega) (by constructor <;> omega) (fun h39 => ?_) (fun h39 => ?_)
        · refine j_iload_n (p2 := 74) dM_mode_73 rfl rfl ?_
          refine j_ireturn dM_mode_74 rfl (by first | (exfalso; exact h39 h14) | (have g := dec_t h6; have e1 : m = 0 := (by omega); subst e1; exact h3 rfl))
        · refine J.loc (lv' := [(0, _), (2, _)]) ⟨rfl, rfl, trivial⟩ ?_
          first
            | (exfalso; exact h14 h39)
            | (subst h39
               exact at42 rfl h21 re)
      · refine j_bipush (v := (-103)) (p2 := 26) dM_mode_24 rfl rfl ?_
        refine j_ireturn dM_mode_26 rfl (by exact h2 h14 h21 re)
  · refine j_bipush (v := (-102)) (p2 := 11) dM_mode_9 rfl rfl ?_
    refine j_ireturn dM_mode_11 rfl (by exact h1 (of_decide_eq_false h6))
end REF28
