/-! ===== trials of the reference ===== -/
section REF22
variable {σ : Hp} {Q : Option PV → Hp → Prop} {N : Nat}
theorem midH_69I {t : UInt64} {r : Int} : hI (midH σ N t r) 69 = hI σ 69 := by
  unfold midH
  by_cases h0 : r = 0
  · rw [if_pos h0]; rfl
  · rw [if_neg h0]
    by_cases h1 : r = 1
    · rw [if_pos h1]; rfl
    · rw [if_neg h1]; rfl
theorem midH_69D {t : UInt64} {r : Int} : hD (midH σ N t r) 69 = hD σ 69 := by
  unfold midH
  by_cases h0 : r = 0
  · rw [if_pos h0]; rfl
  · rw [if_neg h0]
    by_cases h1 : r = 1
    · rw [if_pos h1]; rfl
    · rw [if_neg h1]; rfl
theorem endH_69I : hI (endH σ N) 69 = fup (hI σ 69) 12 (hI σ 69 12 + 1) := rfl
theorem endH_69D : hD (endH σ N) 69 = hD σ 69 := rfl
theorem s0H_69I : hI (s0H σ N) 69 = hI σ 69 := rfl
theorem s0H_69D : hD (s0H σ N) 69 = hD σ 69 := rfl
theorem stepH_69I : hI (stepH σ N) 69 = fup (hI σ 69) 12 (hI σ 69 12 + 1) := by
  unfold stepH
  rw [endH_69I, midH_69I, s0H_69I]
theorem stepH_69D : hD (stepH σ N) 69 = hD σ 69 := by
  unfold stepH
  rw [endH_69D, midH_69D, s0H_69D]
def itH (σ : Hp) (N : Nat) : Nat → Hp
  | 0 => σ
  | k + 1 => stepH (itH σ N k) N
theorem itH_69D : ∀ k : Nat, hD (itH σ N k) 69 = hD σ 69
  | 0 => rfl
  | k + 1 => by
    show hD (stepH (itH σ N k) N) 69 = _
    rw [stepH_69D, itH_69D k]
theorem itH_13 : ∀ k : Nat, hI (itH σ N k) 69 13 = hI σ 69 13
  | 0 => rfl
  | k + 1 => by
    show hI (stepH (itH σ N k) N) 69 13 = _
    rw [stepH_69I, fup_n (by decide), itH_13 k]
def leH (σ : Hp) (t : UInt64) : Hp := wD σ 69 (fup (hD σ 69) 45 t)
def trH (σ : Hp) (N n : Nat) (t : UInt64) : Hp := itH (leH (begH σ N) t) N n
theorem leH_W {t : UInt64} (h : WS σ N) : WS (leH σ t) N := h
theorem leH_Z {t : UInt64} (h : Zr σ N) : Zr (leH σ t) N := h
theorem leH_t {t : UInt64} : hD (leH σ t) 69 45 = t := by
  show fup (hD σ 69) 45 t 45 = t
  exact fup_s _ _ _
theorem begH_13 : hI (begH σ N) 69 13 = hI σ 69 13 := rfl
theorem cM_tried {q : Int} {n : Nat} {t : UInt64} (hp : WP σ N) (hr : RdR σ) (hz : Zr σ N) (ht : mg t 1023) (hru : 0 ≤ hI σ 69 13 ∧ hI σ 69 13 ≤ 2) (hq : 0 ≤ q ∧ q < 20) (hn : n ≤ 100) (hQ : WS (trH σ N n t) N → Zr (trH σ N n t) N → Q (some (vD (hD (trH σ N n t) 82 q))) (trH σ N n t)) : Sp mM_tried [vR 69, vI q, vI n, vD t] σ Q := by
  have loop : ∀ (f i : Nat), i ≤ n → n + 1 ≤ i + f → WS (trH σ N i t) N → Zr (trH σ N i t) N → J mM_tried 12 [(0, vR 69), (1, vI q), (2, vI n), (5, vI i)] [] (trH σ N i t) Q := by
    intro f
    induction f with
    | zero => intro i h1 h2; exact absurd h2 (by omega)
    | succ f ih =>
      intro i h1 h2 w z
      have e1 : hD (trH σ N i t) 69 45 = t := by
        unfold trH; rw [itH_69D]; exact leH_t
      have e2 : hI (trH σ N i t) 69 13 = hI σ 69 13 := by
        unfold trH; rw [itH_13]; rfl
      refine j_iload (p2 := 14) dM_tried_12 rfl rfl ?_
      refine j_iload_n (p2 := 15) dM_tried_14 rfl rfl ?_
      refine j_icmp_ge (p2 := 18) (tg := 28) dM_tried_15 rfl (by decide) (by constructor <;> omega) (by constructor <;> omega) (fun h15 => ?_) (fun h15 => ?_)
      · refine j_aload_n (p2 := 29) dM_tried_28 rfl rfl ?_
        refine j_getR (p2 := 32) dM_tried_29 rfl fa_M_53 ly_69 rfl ?_
        refine j_iload_n (p2 := 33) dM_tried_32 rfl rfl ?_
        refine j_dald (p2 := 34) dM_tried_33 rfl ly_82 (by decide) (by omega) (by omega) ?_
        refine j_dreturn dM_tried_34 rfl (by have e : i = n := (by omega); subst e; exact hQ w z)
      · refine j_aload_n (p2 := 19) dM_tried_18 rfl rfl ?_
        refine j_callV (m' := mM_step) (As := []) (p2 := 22) dM_tried_19 rfl ml_M_347 ok_mM_step im_mM_step se_mM_step rfl rfl (Nat.le_of_ble_eq_true rfl) ly_69 rfl (Nat.le_of_ble_eq_true rfl) ⟨(Nat.le_of_ble_eq_true rfl), (Nat.le_of_ble_eq_true rfl)⟩ ?_
        refine cM_step w z (by rw [e1]; exact ht) (by rw [e2]; exact hru) (fun w2 => ?_)
        refine j_iinc (p2 := 25) (lv' := [(0, _), (1, _), (2, _), (5, _)]) dM_tried_22 rfl (Nat.le_of_ble_eq_true rfl) rfl ⟨rfl, rfl, rfl, rfl, trivial⟩ ?_
        refine j_goto (p2 := 12) dM_tried_25 (by decide) ?_
        refine J.loc (lv' := [(0, _), (1, _), (2, _), (5, _)]) ⟨rfl, rfl, rfl, rfl, trivial⟩ ?_
        exact ih (i + 1) (by omega) (by omega) w2.1 w2.2.1
  refine j_aload_n (p2 := 1) dM_tried_0 rfl rfl ?_
  refine j_callV (m' := mM_beginAll) (As := []) (p2 := 4) dM_tried_1 rfl ml_M_338 ok_mM_beginAll im_mM_beginAll se_mM_beginAll rfl rfl (Nat.le_of_ble_eq_true rfl) ly_69 rfl (Nat.le_of_ble_eq_true rfl) ⟨(Nat.le_of_ble_eq_true rfl), (Nat.le_of_ble_eq_true rfl)⟩ ?_
  refine cM_beginAll hp hr hz (fun w z => ?_)
  refine j_aload_n (p2 := 5) dM_tried_4 rfl rfl ?_
  refine j_dload_n (p2 := 6) dM_tried_5 rfl rfl ?_
  refine j_putDk (p2 := 9) dM_tried_6 rfl fw_M_297 ly_69 rfl (ki := 45) rfl ?_
  refine j_iconst (p2 := 10) dM_tried_9 rfl ?_
  refine j_istore (p2 := 12) (lv' := [(0, _), (1, _), (2, _), (5, _)]) dM_tried_10 rfl (Nat.le_of_ble_eq_true rfl) ⟨rfl, rfl, rfl, rfl, trivial⟩ ?_
  refine J.loc (lv' := [(0, _), (1, _), (2, _), (5, _)]) ⟨rfl, rfl, rfl, rfl, trivial⟩ ?_
  exact loop (n + 1) 0 (by omega) (by omega) (leH_W w) (leH_Z z)
theorem cM_rate {m : Int} (hs : Sc σ) (hm : inR m) (hk : isM σ m → inR (hI σ 70 m)) (hb : isM σ m → vf_n64 (hD σ 89 m)) (hQ : Q (some (vL (if isM σ m ∧ ¬ hI σ 69 11 = 0 ∧ hI σ 70 m = 2 then (hD σ 89 m).toInt64 else 0))) σ) : Sp mM_rate [vR 69, vI m] σ Q := by
  obtain ⟨s1, s2, s3, s4⟩ := hs
  refine j_aload_n (p2 := 1) dM_rate_0 rfl rfl ?_
  refine j_iload_n (p2 := 2) dM_rate_1 rfl rfl ?_
  refine j_callV (m' := mM_isModule) (As := [_]) (p2 := 5) dM_rate_2 rfl ml_M_198 ok_mM_isModule im_mM_isModule se_mM_isModule rfl rfl (Nat.le_of_ble_eq_true rfl) ly_69 rfl (Nat.le_of_ble_eq_true rfl) ⟨(Nat.le_of_ble_eq_true rfl), (Nat.le_of_ble_eq_true rfl)⟩ ?_
  refine cM_isModule hm s1 ?_
  refine j_ifb_eq (p2 := 8) (tg := 37) dM_rate_5 rfl (by decide) (fun h5 => ?_) (fun h5 => ?_)
  · refine j_lconst (v := 0) (p2 := 38) dM_rate_37 rfl rfl ?_
    refine j_lreturn dM_rate_38 rfl (by first | (have g := of_decide_eq_false h5; rw [if_neg (by omega)] at hQ; exact hQ) | (have g := dec_t h5; first | (rw [if_pos (by omega)] at hQ; exact hQ) | (rw [if_neg (by omega)] at hQ; exact hQ)))
  · refine j_aload_n (p2 := 9) dM_rate_8 rfl rfl ?_
    refine j_getIk (p2 := 12) dM_rate_9 rfl fa_M_195 ly_69 rfl (ki := 11) rfl ?_
    refine j_if_eq (p2 := 15) (tg := 37) dM_rate_12 rfl (by decide) (by constructor <;> omega) (fun h12 => ?_) (fun h12 => ?_)
    · refine j_lconst (v := 0) (p2 := 38) dM_rate_37 rfl rfl ?_
      refine j_lreturn dM_rate_38 rfl (by first | (have g := of_decide_eq_false h5; rw [if_neg (by omega)] at hQ; exact hQ) | (have g := dec_t h5; first | (rw [if_pos (by omega)] at hQ; exact hQ) | (rw [if_neg (by omega)] at hQ; exact hQ)))
    · refine j_aload_n (p2 := 16) dM_rate_15 rfl rfl ?_
      refine j_getR (p2 := 19) dM_rate_16 rfl fa_M_7 ly_69 rfl ?_
      refine j_iload_n (p2 := 20) dM_rate_19 rfl rfl ?_
      refine j_iald (p2 := 21) dM_rate_20 rfl ly_70 (by decide) (by have := dec_t h5; omega) (by have := dec_t h5; omega) ?_
      refine j_iconst (p2 := 22) dM_rate_21 rfl ?_
      refine j_icmp_ne (p2 := 25) (tg := 37) dM_rate_22 rfl (by decide) (by exact hk (dec_t h5)) (by constructor <;> omega) (fun h22 => ?_) (fun h22 => ?_)
      · refine j_lconst (v := 0) (p2 := 38) dM_rate_37 rfl rfl ?_
        refine j_lreturn dM_rate_38 rfl (by first | (have g := of_decide_eq_false h5; rw [if_neg (by omega)] at hQ; exact hQ) | (have g := dec_t h5; first | (rw [if_pos (by omega)] at hQ; exact hQ) | (rw [if_neg (by omega)] at hQ; exact hQ)))
      · refine j_aload_n (p2 := 26) dM_rate_25 rfl rfl ?_
        refine j_getR (p2 := 29) dM_rate_26 rfl fa_M_74 ly_69 rfl ?_
        refine j_iload_n (p2 := 30) dM_rate_29 rfl rfl ?_
        refine j_dald (p2 := 31) dM_rate_30 rfl ly_89 (by decide) (by have := dec_t h5; omega) (by have := dec_t h5; omega) ?_
        refine j_callS (m' := mJD_doubleToLongBits) (As := [_]) (p2 := 34) dM_rate_31 rfl ml_M_250 ok_mJD_doubleToLongBits sm_mJD_doubleToLongBits rfl rfl (Nat.le_of_ble_eq_true rfl) (Nat.le_of_ble_eq_true rfl) ⟨(Nat.le_of_ble_eq_true rfl), (Nat.le_of_ble_eq_true rfl)⟩ ?_
        refine cJD_doubleToLongBits (hb (dec_t h5)) ?_
        refine j_goto (p2 := 38) dM_rate_34 (by decide) ?_
        refine j_lreturn dM_rate_38 rfl (by first | (have g := of_decide_eq_false h5; rw [if_neg (by omega)] at hQ; exact hQ) | (have g := dec_t h5; first | (rw [if_pos (by omega)] at hQ; exact hQ) | (rw [if_neg (by omega)] at hQ; exact hQ)))
theorem cM_swept {m : Int} (hs : Sc σ) (hm : inR m) (hb : 0 ≤ m ∧ m < hI σ 69 41 → vf_n64 (hD σ 103 m)) (hQ : Q (some (vL (if 0 ≤ m ∧ m < hI σ 69 41 then (hD σ 103 m).toInt64 else 0))) σ) : Sp mM_swept [vR 69, vI m] σ Q := by
  obtain ⟨s1, s2, s3, s4⟩ := hs
  refine j_iload_n (p2 := 1) dM_swept_0 rfl rfl ?_
  refine j_iconst (p2 := 2) dM_swept_1 rfl ?_
  refine j_aload_n (p2 := 3) dM_swept_2 rfl rfl ?_
  refine j_getIk (p2 := 6) dM_swept_3 rfl fa_M_378 ly_69 rfl (ki := 41) rfl ?_
  refine j_iconst (p2 := 7) dM_swept_6 rfl ?_
  refine j_isub (p2 := 8) dM_swept_7 rfl ?_
  refine j_callS (m' := mM_in) (As := [_, _, _]) (p2 := 11) dM_swept_8 rfl ml_M_161 ok_mM_in sm_mM_in rfl rfl (Nat.le_of_ble_eq_true rfl) (Nat.le_of_ble_eq_true rfl) ⟨(Nat.le_of_ble_eq_true rfl), (Nat.le_of_ble_eq_true rfl)⟩ ?_
  refine cM_in hm (by constructor <;> omega) (by constructor <;> omega) ?_
  refine j_ifb_eq (p2 := 14) (tg := 26) dM_swept_11 rfl (by decide) (fun h11 => ?_) (fun h11 => ?_)
  · refine j_lconst (v := 0) (p2 := 27) dM_swept_26 rfl rfl ?_
    refine j_lreturn dM_swept_27 rfl (by first | (have g := of_decide_eq_false h11; rw [if_neg (by omega)] at hQ; exact hQ) | (have g := dec_t h11; rw [if_pos (by omega)] at hQ; exact hQ))
  · refine j_aload_n (p2 := 15) dM_swept_14 rfl rfl ?_
    refine j_getR (p2 := 18) dM_swept_15 rfl fa_M_116 ly_69 rfl ?_
    refine j_iload_n (p2 := 19) dM_swept_18 rfl rfl ?_
    refine j_dald (p2 := 20) dM_swept_19 rfl ly_103 (by decide) (by have := dec_t h11; omega) (by have := dec_t h11; omega) ?_
    refine j_callS (m' := mJD_doubleToLongBits) (As := [_]) (p2 := 23) dM_swept_20 rfl ml_M_250 ok_mJD_doubleToLongBits sm_mJD_doubleToLongBits rfl rfl (Nat.le_of_ble_eq_true rfl) (Nat.le_of_ble_eq_true rfl) ⟨(Nat.le_of_ble_eq_true rfl), (Nat.le_of_ble_eq_true rfl)⟩ ?_
    refine cJD_doubleToLongBits (hb (by have := dec_t h11; omega)) ?_
    refine j_goto (p2 := 27) dM_swept_23 (by decide) ?_
    refine j_lreturn dM_swept_27 rfl (by first | (have g := of_decide_eq_false h11; rw [if_neg (by omega)] at hQ; exact hQ) | (have g := dec_t h11; rw [if_pos (by omega)] at hQ; exact hQ))
theorem cM_sample {s i : Int} (hs : Sc σ) (hm : inR s) (hi : inR i) (hl : isS σ s → 0 ≤ hI σ 101 s ∧ hI σ 101 s ≤ 120) (hb : ∀ k : Int, 0 ≤ k → k < 720 → vf_n64 (hD σ 102 k)) (hQ : Q (some (vL (if isS σ s ∧ 0 ≤ i ∧ i < hI σ 101 s then (hD σ 102 (120 * s + i)).toInt64 else 0))) σ) : Sp mM_sample [vR 69, vI s, vI i] σ Q := by
  obtain ⟨s1, s2, s3, s4⟩ := hs
  refine j_aload_n (p2 := 1) dM_sample_0 rfl rfl ?_
  refine j_iload_n (p2 := 2) dM_sample_1 rfl rfl ?_
  refine j_callV (m' := mM_isStrip) (As := [_]) (p2 := 5) dM_sample_2 rfl ml_M_359 ok_mM_isStrip im_mM_isStrip se_mM_isStrip rfl rfl (Nat.le_of_ble_eq_true rfl) ly_69 rfl (Nat.le_of_ble_eq_true rfl) ⟨(Nat.le_of_ble_eq_true rfl), (Nat.le_of_ble_eq_true rfl)⟩ ?_
  refine cM_isStrip hm s3 ?_
  refine j_ifb_eq (p2 := 8) (tg := 41) dM_sample_5 rfl (by decide) (fun h5 => ?_) (fun h5 => ?_)
  · refine j_lconst (v := 0) (p2 := 42) dM_sample_41 rfl rfl ?_
    refine j_lreturn dM_sample_42 rfl (by first | (have g := of_decide_eq_false h5; rw [if_neg (by omega)] at hQ; exact hQ) | (have g := dec_t h5; first | (have g2 := of_decide_eq_false h21; rw [if_neg (by omega)] at hQ; exact hQ) | (have g2 := dec_t h21; rw [if_pos (by omega)] at hQ; exact hQ)))
  · refine j_iload_n (p2 := 9) dM_sample_8 rfl rfl ?_
    refine j_iconst (p2 := 10) dM_sample_9 rfl ?_
    refine j_aload_n (p2 := 11) dM_sample_10 rfl rfl ?_
    refine j_getR (p2 := 14) dM_sample_11 rfl fa_M_110 ly_69 rfl ?_
    refine j_iload_n (p2 := 15) dM_sample_14 rfl rfl ?_
    refine j_iald (p2 := 16) dM_sample_15 rfl ly_101 (by decide) (by have := dec_t h5; omega) (by have := dec_t h5; omega) ?_
    refine j_iconst (p2 := 17) dM_sample_16 rfl ?_
    refine j_isub (p2 := 18) dM_sample_17 rfl ?_
    refine j_callS (m' := mM_in) (As := [_, _, _]) (p2 := 21) dM_sample_18 rfl ml_M_161 ok_mM_in sm_mM_in rfl rfl (Nat.le_of_ble_eq_true rfl) (Nat.le_of_ble_eq_true rfl) ⟨(Nat.le_of_ble_eq_true rfl), (Nat.le_of_ble_eq_true rfl)⟩ ?_
    refine cM_in hi (by constructor <;> omega) (by have a := dec_t h5; have b := hl a; constructor <;> omega) ?_
    refine j_ifb_eq (p2 := 24) (tg := 41) dM_sample_21 rfl (by decide) (fun h21 => ?_) (fun h21 => ?_)
    · refine j_lconst (v := 0) (p2 := 42) dM_sample_41 rfl rfl ?_
      refine j_lreturn dM_sample_42 rfl (by first | (have g := of_decide_eq_false h5; rw [if_neg (by omega)] at hQ; exact hQ) | (have g := dec_t h5; first | (have g2 := of_decide_eq_false h21; rw [if_neg (by omega)] at hQ; exact hQ) | (have g2 := dec_t h21; rw [if_pos (by omega)] at hQ; exact hQ)))
    · refine j_aload_n (p2 := 25) dM_sample_24 rfl rfl ?_
      refine j_getR (p2 := 28) dM_sample_25 rfl fa_M_113 ly_69 rfl ?_
      refine j_bipush (v := 120) (p2 := 30) dM_sample_28 rfl rfl ?_
      refine j_iload_n (p2 := 31) dM_sample_30 rfl rfl ?_
      refine j_imul (p2 := 32) dM_sample_31 rfl ?_
      refine j_iload_n (p2 := 33) dM_sample_32 rfl rfl ?_
      refine j_iadd (p2 := 34) dM_sample_33 rfl ?_
      refine j_dald (p2 := 35) dM_sample_34 rfl ly_102 (by decide) (by have a := dec_t h5; have := dec_t h21; omega) (by have a := dec_t h5; have b := hl a; have := dec_t h21; omega) ?_
      refine j_callS (m' := mJD_doubleToLongBits) (As := [_]) (p2 := 38) dM_sample_35 rfl ml_M_250 ok_mJD_doubleToLongBits sm_mJD_doubleToLongBits rfl rfl (Nat.le_of_ble_eq_true rfl) (Nat.le_of_ble_eq_true rfl) ⟨(Nat.le_of_ble_eq_true rfl), (Nat.le_of_ble_eq_true rfl)⟩ ?_
      refine cJD_doubleToLongBits (hb _ (by have a := dec_t h5; have := dec_t h21; omega) (by have a := dec_t h5; have b := hl a; have := dec_t h21; omega)) ?_
      refine j_goto (p2 := 42) dM_sample_38 (by decide) ?_
      refine j_lreturn dM_sample_42 rfl (by first | (have g := of_decide_eq_false h5; rw [if_neg (by omega)] at hQ; exact hQ) | (have g := dec_t h5; first | (have g2 := of_decide_eq_false h21; rw [if_neg (by omega)] at hQ; exact hQ) | (have g2 := dec_t h21; rw [if_pos (by omega)] at hQ; exact hQ)))
end REF22
