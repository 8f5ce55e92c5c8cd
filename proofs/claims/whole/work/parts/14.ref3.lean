/-! ===== the reference: sums ===== -/
theorem dec_f {p : Prop} [Decidable p] (h : decide (¬ p) = false) : p := by
  have := of_decide_eq_false h
  exact Classical.not_not.mp this
theorem dec_t {p : Prop} [Decidable p] (h : decide p = true) : p := of_decide_eq_true h
section GS
variable {α : Type} {A : Ar α} {fr tu : Int → Int} {r : Int → α} {m : Int} {i : Nat}
theorem gsum_no (h : fr (6 * m + (i : Int)) = -1) : gsum A fr tu r m (i + 1) = gsum A fr tu r m i := by
  show (if _ then _ else _) = _
  rw [if_pos h]
theorem gsum_1 (h : ¬ fr (6 * m + (i : Int)) = -1) (h2 : (gsum A fr tu r m i).2 = true) : gsum A fr tu r m (i + 1) = (gin A fr tu r m i, false) := by
  show (if _ then _ else _) = _
  rw [if_neg h, if_pos h2]
theorem gsum_2 (h : ¬ fr (6 * m + (i : Int)) = -1) (h2 : (gsum A fr tu r m i).2 = false) : gsum A fr tu r m (i + 1) = (Aadd A (gsum A fr tu r m i).1 (gin A fr tu r m i), false) := by
  show (if _ then _ else _) = _
  rw [if_neg h, if_neg (by rw [h2]; decide)]
end GS
theorem gin_mg {fr tu : Int → Int} {r : Int → UInt64} {m i : Int} {K : Nat} (h : mg (r (fr (6 * m + i))) K) : mg (gin arD fr tu r m i) K := by
  unfold gin
  by_cases h1 : tu (6 * m + i) = 0
  · rw [if_pos h1]; exact h
  · rw [if_neg h1]; exact mg_neg h
theorem gin_mf {fr tu : Int → Int} {r : Int → UInt32} {m i : Int} {K : Nat} (h : mf (r (fr (6 * m + i))) K) : mf (gin arF fr tu r m i) K := by
  unfold gin
  by_cases h1 : tu (6 * m + i) = 0
  · rw [if_pos h1]; exact h
  · rw [if_neg h1]; exact mf_neg h
theorem gsum_mg {fr tu : Int → Int} {r : Int → UInt64} {m : Int} (hr : ∀ j : Nat, j < 6 → ¬ fr (6 * m + (j : Int)) = -1 → mg (r (fr (6 * m + (j : Int)))) 1024) : ∀ i : Nat, i ≤ 6 → mg (gsum arD fr tu r m i).1 (1024 + 2 * i)
  | 0, _ => by show mg FP.dconst0 1024; unfold mg; decide
  | i + 1, hi => by
    have ih := gsum_mg (tu := tu) hr i (by omega)
    by_cases h : fr (6 * m + (i : Int)) = -1
    · rw [gsum_no h]; exact ih.mono (by omega)
    · have hg := gin_mg (tu := tu) (hr i (by omega) h)
      cases h2 : (gsum arD fr tu r m i).2 with
      | true => rw [gsum_1 h h2]; exact hg.mono (by omega)
      | false => rw [gsum_2 h h2]; exact (mg_add ih (hg.mono (by omega)) (by omega)).mono (by omega)
theorem gsum_mf {fr tu : Int → Int} {r : Int → UInt32} {m : Int} (hr : ∀ j : Nat, j < 6 → ¬ fr (6 * m + (j : Int)) = -1 → mf (r (fr (6 * m + (j : Int)))) 128) : ∀ i : Nat, i ≤ 6 → mf (gsum arF fr tu r m i).1 (128 + 2 * i)
  | 0, _ => by show mf FP.fconst0 128; unfold mf; decide
  | i + 1, hi => by
    have ih := gsum_mf (tu := tu) hr i (by omega)
    by_cases h : fr (6 * m + (i : Int)) = -1
    · rw [gsum_no h]; exact ih.mono (by omega)
    · have hg := gin_mf (tu := tu) (hr i (by omega) h)
      cases h2 : (gsum arF fr tu r m i).2 with
      | true => rw [gsum_1 h h2]; exact hg.mono (by omega)
      | false => rw [gsum_2 h h2]; exact (mf_add ih (hg.mono (by omega)) (by omega)).mono (by omega)
/-- what the code of the reference needs of the cords of module m -/
abbrev CdR (σ : Hp) (m : Int) : Prop := ∀ j : Int, 0 ≤ j → j < 6 → (-1 ≤ hI σ 72 (6 * m + j) ∧ hI σ 72 (6 * m + j) < 20) ∧ (0 ≤ hI σ 73 (6 * m + j) ∧ hI σ 73 (6 * m + j) ≤ 1)
section REF3
variable {σ : Hp} {Q : Option PV → Hp → Prop}
theorem cM_sum {m : Int} (hm : 0 ≤ m ∧ m < 20) (hc : CdR σ m) (hr : ∀ k : Int, 0 ≤ k → k < 20 → mg (hD σ 82 k) 1024) (hQ : Q (some (vD (gsum arD (hI σ 72) (hI σ 73) (hD σ 82) m 6).1)) σ) : Sp mM_sum [vR 69, vI m] σ Q := by
  have hr2 : ∀ j : Nat, j < 6 → ¬ hI σ 72 (6 * m + (j : Int)) = -1 → mg (hD σ 82 (hI σ 72 (6 * m + (j : Int)))) 1024 := fun j hj h => by
    have := hc j (by omega) (by omega)
    exact hr _ (by omega) (by omega)
  have loop : ∀ (n : Nat) (i : Nat), i ≤ 6 → 7 ≤ i + n → J mM_sum 8 [(0, vR 69), (1, vI m), (2, vD (gsum arD (hI σ 72) (hI σ 73) (hD σ 82) m i).1), (4, vI (bI (gsum arD (hI σ 72) (hI σ 73) (hD σ 82) m i).2)), (5, vI i)] [] σ Q := by
    intro n
    induction n with
    | zero => intro i h1 h2; exact absurd h2 (by omega)
    | succ n ih =>
      intro i h1 h2
      have cb : i < 6 → (-1 ≤ hI σ 72 (6 * m + i) ∧ hI σ 72 (6 * m + i) < 20) ∧ (0 ≤ hI σ 73 (6 * m + i) ∧ hI σ 73 (6 * m + i) ≤ 1) := fun h => hc i (by omega) (by omega)
      have k0 : i < 6 → hI σ 72 (6 * m + i) = -1 → J mM_sum 8 [(0, vR 69), (1, vI m), (2, vD (gsum arD (hI σ 72) (hI σ 73) (hD σ 82) m i).1), (4, vI (bI (gsum arD (hI σ 72) (hI σ 73) (hD σ 82) m i).2)), (5, vI (i + 1))] [] σ Q := fun hi h => by
        have := ih (i + 1) (by omega) (by omega)
        rw [gsum_no h] at this; exact this
      have k1 : i < 6 → ¬ hI σ 72 (6 * m + i) = -1 → (gsum arD (hI σ 72) (hI σ 73) (hD σ 82) m i).2 = true → J mM_sum 8 [(0, vR 69), (1, vI m), (2, vD (gin arD (hI σ 72) (hI σ 73) (hD σ 82) m i)), (4, vI 0), (5, vI (i + 1))] [] σ Q := fun hi h g => by
        have := ih (i + 1) (by omega) (by omega)
        rw [gsum_1 h g] at this; exact this
      have k2 : i < 6 → ¬ hI σ 72 (6 * m + i) = -1 → (gsum arD (hI σ 72) (hI σ 73) (hD σ 82) m i).2 = false → J mM_sum 8 [(0, vR 69), (1, vI m), (2, vD (Aadd arD (gsum arD (hI σ 72) (hI σ 73) (hD σ 82) m i).1 (gin arD (hI σ 72) (hI σ 73) (hD σ 82) m i))), (4, vI 0), (5, vI (i + 1))] [] σ Q := fun hi h g => by
        have := ih (i + 1) (by omega) (by omega)
        rw [gsum_2 h g] at this; exact this
      refine j_iload (p2 := 10) dM_sum_8 rfl rfl ?_
      refine j_bipush (v := 6) (p2 := 12) dM_sum_10 rfl rfl ?_
      refine j_icmp_ge (p2 := 15) (tg := 59) dM_sum_12 rfl (by decide) (by constructor <;> omega) (by constructor <;> omega) (fun h12 => ?_) (fun h12 => ?_)
      · refine j_dload_n (p2 := 60) dM_sum_59 rfl rfl ?_
        refine j_dreturn dM_sum_60 rfl (by have e : i = 6 := (by omega); subst e; exact hQ)
      · refine j_aload_n (p2 := 16) dM_sum_15 rfl rfl ?_
        refine j_iload_n (p2 := 17) dM_sum_16 rfl rfl ?_
        refine j_iload (p2 := 19) dM_sum_17 rfl rfl ?_
        refine j_callV (m' := mM_has) (As := [_, _]) (p2 := 22) dM_sum_19 rfl ml_M_213 ok_mM_has im_mM_has se_mM_has rfl rfl (Nat.le_of_ble_eq_true rfl) ly_69 rfl (Nat.le_of_ble_eq_true rfl) ⟨(Nat.le_of_ble_eq_true rfl), (Nat.le_of_ble_eq_true rfl)⟩ ?_
        refine cM_has hm (by omega) (by have := cb (by omega); constructor <;> omega) ?_
        refine j_ifb_eq (p2 := 25) (tg := 53) dM_sum_22 rfl (by decide) (fun h22 => ?_) (fun h22 => ?_)
        · refine j_iinc (p2 := 56) (lv' := [(0, _), (1, _), (2, _), (4, _), (5, _)]) dM_sum_53 rfl (Nat.le_of_ble_eq_true rfl) rfl ⟨rfl, rfl, rfl, rfl, rfl, trivial⟩ ?_
          refine j_goto (p2 := 8) dM_sum_56 (by decide) ?_
          refine J.loc (lv' := [(0, _), (1, _), (2, _), (4, _), (5, _)]) ⟨rfl, rfl, rfl, rfl, rfl, trivial⟩ ?_
          first | exact k0 (by omega) (dec_f h22) | exact k1 (by omega) (dec_t h22) h27 | exact k2 (by omega) (dec_t h22) h27
        · refine j_iload (p2 := 27) dM_sum_25 rfl rfl ?_
          refine j_ifb_eq (p2 := 30) (tg := 40) dM_sum_27 rfl (by decide) (fun h27 => ?_) (fun h27 => ?_)
          · refine j_dload_n (p2 := 41) dM_sum_40 rfl rfl ?_
            refine j_aload_n (p2 := 42) dM_sum_41 rfl rfl ?_
            refine j_iload_n (p2 := 43) dM_sum_42 rfl rfl ?_
            refine j_iload (p2 := 45) dM_sum_43 rfl rfl ?_
            refine j_callV (m' := mM_input) (As := [_, _]) (p2 := 48) dM_sum_45 rfl ml_M_242 ok_mM_input im_mM_input se_mM_input rfl rfl (Nat.le_of_ble_eq_true rfl) ly_69 rfl (Nat.le_of_ble_eq_true rfl) ⟨(Nat.le_of_ble_eq_true rfl), (Nat.le_of_ble_eq_true rfl)⟩ ?_
            refine cM_input hm (by omega) (by have := cb (by omega); have := dec_t h22; omega) (by have := cb (by omega); constructor <;> omega) ?_
            refine j_dadd (p2 := 49) dM_sum_48 rfl (mg.nn (mg_add (gsum_mg hr2 i (by omega)) (mg.mono (gin_mg (hr2 i (by omega) (dec_t h22))) (by omega)) (by omega)) (by omega)) ?_
            refine j_dstore_n (p2 := 50) (lv' := [(0, _), (1, _), (2, _), (5, _)]) dM_sum_49 rfl (Nat.le_of_ble_eq_true rfl) ⟨rfl, rfl, rfl, rfl, trivial⟩ ?_
            refine j_iconst (p2 := 51) dM_sum_50 rfl ?_
            refine j_istore (p2 := 53) (lv' := [(0, _), (1, _), (2, _), (4, _), (5, _)]) dM_sum_51 rfl (Nat.le_of_ble_eq_true rfl) ⟨rfl, rfl, rfl, rfl, rfl, trivial⟩ ?_
            refine j_iinc (p2 := 56) (lv' := [(0, _), (1, _), (2, _), (4, _), (5, _)]) dM_sum_53 rfl (Nat.le_of_ble_eq_true rfl) rfl ⟨rfl, rfl, rfl, rfl, rfl, trivial⟩ ?_
            refine j_goto (p2 := 8) dM_sum_56 (by decide) ?_
            refine J.loc (lv' := [(0, _), (1, _), (2, _), (4, _), (5, _)]) ⟨rfl, rfl, rfl, rfl, rfl, trivial⟩ ?_
            first | exact k0 (by omega) (dec_f h22) | exact k1 (by omega) (dec_t h22) h27 | exact k2 (by omega) (dec_t h22) h27
          · refine j_aload_n (p2 := 31) dM_sum_30 rfl rfl ?_
            refine j_iload_n (p2 := 32) dM_sum_31 rfl rfl ?_
            refine j_iload (p2 := 34) dM_sum_32 rfl rfl ?_
            refine j_callV (m' := mM_input) (As := [_, _]) (p2 := 37) dM_sum_34 rfl ml_M_242 ok_mM_input im_mM_input se_mM_input rfl rfl (Nat.le_of_ble_eq_true rfl) ly_69 rfl (Nat.le_of_ble_eq_true rfl) ⟨(Nat.le_of_ble_eq_true rfl), (Nat.le_of_ble_eq_true rfl)⟩ ?_
            refine cM_input hm (by omega) (by have := cb (by omega); have := dec_t h22; omega) (by have := cb (by omega); constructor <;> omega) ?_
            refine j_goto (p2 := 49) dM_sum_37 (by decide) ?_
            refine j_dstore_n (p2 := 50) (lv' := [(0, _), (1, _), (2, _), (5, _)]) dM_sum_49 rfl (Nat.le_of_ble_eq_true rfl) ⟨rfl, rfl, rfl, rfl, trivial⟩ ?_
            refine j_iconst (p2 := 51) dM_sum_50 rfl ?_
            refine j_istore (p2 := 53) (lv' := [(0, _), (1, _), (2, _), (4, _), (5, _)]) dM_sum_51 rfl (Nat.le_of_ble_eq_true rfl) ⟨rfl, rfl, rfl, rfl, rfl, trivial⟩ ?_
            refine j_iinc (p2 := 56) (lv' := [(0, _), (1, _), (2, _), (4, _), (5, _)]) dM_sum_53 rfl (Nat.le_of_ble_eq_true rfl) rfl ⟨rfl, rfl, rfl, rfl, rfl, trivial⟩ ?_
            refine j_goto (p2 := 8) dM_sum_56 (by decide) ?_
            refine J.loc (lv' := [(0, _), (1, _), (2, _), (4, _), (5, _)]) ⟨rfl, rfl, rfl, rfl, rfl, trivial⟩ ?_
            first | exact k0 (by omega) (dec_f h22) | exact k1 (by omega) (dec_t h22) h27 | exact k2 (by omega) (dec_t h22) h27
  refine j_dconst0 (p2 := 1) dM_sum_0 rfl ?_
  refine j_dstore_n (p2 := 2) (lv' := [(0, _), (1, _), (2, _)]) dM_sum_1 rfl (Nat.le_of_ble_eq_true rfl) ⟨rfl, rfl, rfl, trivial⟩ ?_
  refine j_iconst (p2 := 3) dM_sum_2 rfl ?_
  refine j_istore (p2 := 5) (lv' := [(0, _), (1, _), (2, _), (4, _)]) dM_sum_3 rfl (Nat.le_of_ble_eq_true rfl) ⟨rfl, rfl, rfl, rfl, trivial⟩ ?_
  refine j_iconst (p2 := 6) dM_sum_5 rfl ?_
  refine j_istore (p2 := 8) (lv' := [(0, _), (1, _), (2, _), (4, _), (5, _)]) dM_sum_6 rfl (Nat.le_of_ble_eq_true rfl) ⟨rfl, rfl, rfl, rfl, rfl, trivial⟩ ?_
  refine J.loc (lv' := [(0, _), (1, _), (2, _), (4, _), (5, _)]) ⟨rfl, rfl, rfl, rfl, rfl, trivial⟩ ?_
  exact loop 7 0 (by omega) (by omega)
theorem cM_sumF {m : Int} (hm : 0 ≤ m ∧ m < 20) (hc : CdR σ m) (hr : ∀ k : Int, 0 ≤ k → k < 20 → mf (hF σ 83 k) 128) (hQ : Q (some (vF (gsum arF (hI σ 72) (hI σ 73) (hF σ 83) m 6).1)) σ) : Sp mM_sumF [vR 69, vI m] σ Q := by
  have hr2 : ∀ j : Nat, j < 6 → ¬ hI σ 72 (6 * m + (j : Int)) = -1 → mf (hF σ 83 (hI σ 72 (6 * m + (j : Int)))) 128 := fun j hj h => by
    have := hc j (by omega) (by omega)
    exact hr _ (by omega) (by omega)
  have loop : ∀ (n : Nat) (i : Nat), i ≤ 6 → 7 ≤ i + n → J mM_sumF 7 [(0, vR 69), (1, vI m), (2, vF (gsum arF (hI σ 72) (hI σ 73) (hF σ 83) m i).1), (3, vI (bI (gsum arF (hI σ 72) (hI σ 73) (hF σ 83) m i).2)), (4, vI i)] [] σ Q := by
    intro n
    induction n with
    | zero => intro i h1 h2; exact absurd h2 (by omega)
    | succ n ih =>
      intro i h1 h2
      have cb : i < 6 → (-1 ≤ hI σ 72 (6 * m + i) ∧ hI σ 72 (6 * m + i) < 20) ∧ (0 ≤ hI σ 73 (6 * m + i) ∧ hI σ 73 (6 * m + i) ≤ 1) := fun h => hc i (by omega) (by omega)
      have k0 : i < 6 → hI σ 72 (6 * m + i) = -1 → J mM_sumF 7 [(0, vR 69), (1, vI m), (2, vF (gsum arF (hI σ 72) (hI σ 73) (hF σ 83) m i).1), (3, vI (bI (gsum arF (hI σ 72) (hI σ 73) (hF σ 83) m i).2)), (4, vI (i + 1))] [] σ Q := fun hi h => by
        have := ih (i + 1) (by omega) (by omega)
        rw [gsum_no h] at this; exact this
      have k1 : i < 6 → ¬ hI σ 72 (6 * m + i) = -1 → (gsum arF (hI σ 72) (hI σ 73) (hF σ 83) m i).2 = true → J mM_sumF 7 [(0, vR 69), (1, vI m), (2, vF (gin arF (hI σ 72) (hI σ 73) (hF σ 83) m i)), (3, vI 0), (4, vI (i + 1))] [] σ Q := fun hi h g => by
        have := ih (i + 1) (by omega) (by omega)
        rw [gsum_1 h g] at this; exact this
      have k2 : i < 6 → ¬ hI σ 72 (6 * m + i) = -1 → (gsum arF (hI σ 72) (hI σ 73) (hF σ 83) m i).2 = false → J mM_sumF 7 [(0, vR 69), (1, vI m), (2, vF (Aadd arF (gsum arF (hI σ 72) (hI σ 73) (hF σ 83) m i).1 (gin arF (hI σ 72) (hI σ 73) (hF σ 83) m i))), (3, vI 0), (4, vI (i + 1))] [] σ Q := fun hi h g => by
        have := ih (i + 1) (by omega) (by omega)
        rw [gsum_2 h g] at this; exact this
      refine j_iload (p2 := 9) dM_sumF_7 rfl rfl ?_
      refine j_bipush (v := 6) (p2 := 11) dM_sumF_9 rfl rfl ?_
      refine j_icmp_ge (p2 := 14) (tg := 56) dM_sumF_11 rfl (by decide) (by constructor <;> omega) (by constructor <;> omega) (fun h11 => ?_) (fun h11 => ?_)
      · refine j_fload_n (p2 := 57) dM_sumF_56 rfl rfl ?_
        refine j_freturn dM_sumF_57 rfl (by have e : i = 6 := (by omega); subst e; exact hQ)
      · refine j_aload_n (p2 := 15) dM_sumF_14 rfl rfl ?_
        refine j_iload_n (p2 := 16) dM_sumF_15 rfl rfl ?_
        refine j_iload (p2 := 18) dM_sumF_16 rfl rfl ?_
        refine j_callV (m' := mM_has) (As := [_, _]) (p2 := 21) dM_sumF_18 rfl ml_M_213 ok_mM_has im_mM_has se_mM_has rfl rfl (Nat.le_of_ble_eq_true rfl) ly_69 rfl (Nat.le_of_ble_eq_true rfl) ⟨(Nat.le_of_ble_eq_true rfl), (Nat.le_of_ble_eq_true rfl)⟩ ?_
        refine cM_has hm (by omega) (by have := cb (by omega); constructor <;> omega) ?_
        refine j_ifb_eq (p2 := 24) (tg := 50) dM_sumF_21 rfl (by decide) (fun h21 => ?_) (fun h21 => ?_)
        · refine j_iinc (p2 := 53) (lv' := [(0, _), (1, _), (2, _), (3, _), (4, _)]) dM_sumF_50 rfl (Nat.le_of_ble_eq_true rfl) rfl ⟨rfl, rfl, rfl, rfl, rfl, trivial⟩ ?_
          refine j_goto (p2 := 7) dM_sumF_53 (by decide) ?_
          refine J.loc (lv' := [(0, _), (1, _), (2, _), (3, _), (4, _)]) ⟨rfl, rfl, rfl, rfl, rfl, trivial⟩ ?_
          first | exact k0 (by omega) (dec_f h21) | exact k1 (by omega) (dec_t h21) h25 | exact k2 (by omega) (dec_t h21) h25
        · refine j_iload_n (p2 := 25) dM_sumF_24 rfl rfl ?_
          refine j_ifb_eq (p2 := 28) (tg := 38) dM_sumF_25 rfl (by decide) (fun h25 => ?_) (fun h25 => ?_)
          · refine j_fload_n (p2 := 39) dM_sumF_38 rfl rfl ?_
            refine j_aload_n (p2 := 40) dM_sumF_39 rfl rfl ?_
            refine j_iload_n (p2 := 41) dM_sumF_40 rfl rfl ?_
            refine j_iload (p2 := 43) dM_sumF_41 rfl rfl ?_
            refine j_callV (m' := mM_inputF) (As := [_, _]) (p2 := 46) dM_sumF_43 rfl ml_M_246 ok_mM_inputF im_mM_inputF se_mM_inputF rfl rfl (Nat.le_of_ble_eq_true rfl) ly_69 rfl (Nat.le_of_ble_eq_true rfl) ⟨(Nat.le_of_ble_eq_true rfl), (Nat.le_of_ble_eq_true rfl)⟩ ?_
            refine cM_inputF hm (by omega) (by have := cb (by omega); have := dec_t h21; omega) (by have := cb (by omega); constructor <;> omega) ?_
            refine j_fadd (p2 := 47) dM_sumF_46 rfl (mf.nn (mf_add (gsum_mf hr2 i (by omega)) (mf.mono (gin_mf (hr2 i (by omega) (dec_t h21))) (by omega)) (by omega)) (by omega)) ?_
            refine j_fstore_n (p2 := 48) (lv' := [(0, _), (1, _), (2, _), (4, _)]) dM_sumF_47 rfl (Nat.le_of_ble_eq_true rfl) ⟨rfl, rfl, rfl, rfl, trivial⟩ ?_
            refine j_iconst (p2 := 49) dM_sumF_48 rfl ?_
            refine j_istore_n (p2 := 50) (lv' := [(0, _), (1, _), (2, _), (3, _), (4, _)]) dM_sumF_49 rfl (Nat.le_of_ble_eq_true rfl) ⟨rfl, rfl, rfl, rfl, rfl, trivial⟩ ?_
            refine j_iinc (p2 := 53) (lv' := [(0, _), (1, _), (2, _), (3, _), (4, _)]) dM_sumF_50 rfl (Nat.le_of_ble_eq_true rfl) rfl ⟨rfl, rfl, rfl, rfl, rfl, trivial⟩ ?_
            refine j_goto (p2 := 7) dM_sumF_53 (by decide) ?_
            refine J.loc (lv' := [(0, _), (1, _), (2, _), (3, _), (4, _)]) ⟨rfl, rfl, rfl, rfl, rfl, trivial⟩ ?_
            first | exact k0 (by omega) (dec_f h21) | exact k1 (by omega) (dec_t h21) h25 | exact k2 (by omega) (dec_t h21) h25
          · refine j_aload_n (p2 := 29) dM_sumF_28 rfl rfl ?_
            refine j_iload_n (p2 := 30) dM_sumF_29 rfl rfl ?_
            refine j_iload (p2 := 32) dM_sumF_30 rfl rfl ?_
            refine j_callV (m' := mM_inputF) (As := [_, _]) (p2 := 35) dM_sumF_32 rfl ml_M_246 ok_mM_inputF im_mM_inputF se_mM_inputF rfl rfl (Nat.le_of_ble_eq_true rfl) ly_69 rfl (Nat.le_of_ble_eq_true rfl) ⟨(Nat.le_of_ble_eq_true rfl), (Nat.le_of_ble_eq_true rfl)⟩ ?_
            refine cM_inputF hm (by omega) (by have := cb (by omega); have := dec_t h21; omega) (by have := cb (by omega); constructor <;> omega) ?_
            refine j_goto (p2 := 47) dM_sumF_35 (by decide) ?_
            refine j_fstore_n (p2 := 48) (lv' := [(0, _), (1, _), (2, _), (4, _)]) dM_sumF_47 rfl (Nat.le_of_ble_eq_true rfl) ⟨rfl, rfl, rfl, rfl, trivial⟩ ?_
            refine j_iconst (p2 := 49) dM_sumF_48 rfl ?_
            refine j_istore_n (p2 := 50) (lv' := [(0, _), (1, _), (2, _), (3, _), (4, _)]) dM_sumF_49 rfl (Nat.le_of_ble_eq_true rfl) ⟨rfl, rfl, rfl, rfl, rfl, trivial⟩ ?_
            refine j_iinc (p2 := 53) (lv' := [(0, _), (1, _), (2, _), (3, _), (4, _)]) dM_sumF_50 rfl (Nat.le_of_ble_eq_true rfl) rfl ⟨rfl, rfl, rfl, rfl, rfl, trivial⟩ ?_
            refine j_goto (p2 := 7) dM_sumF_53 (by decide) ?_
            refine J.loc (lv' := [(0, _), (1, _), (2, _), (3, _), (4, _)]) ⟨rfl, rfl, rfl, rfl, rfl, trivial⟩ ?_
            first | exact k0 (by omega) (dec_f h21) | exact k1 (by omega) (dec_t h21) h25 | exact k2 (by omega) (dec_t h21) h25
  refine j_fconst0 (p2 := 1) dM_sumF_0 rfl ?_
  refine j_fstore_n (p2 := 2) (lv' := [(0, _), (1, _), (2, _)]) dM_sumF_1 rfl (Nat.le_of_ble_eq_true rfl) ⟨rfl, rfl, rfl, trivial⟩ ?_
  refine j_iconst (p2 := 3) dM_sumF_2 rfl ?_
  refine j_istore_n (p2 := 4) (lv' := [(0, _), (1, _), (2, _), (3, _)]) dM_sumF_3 rfl (Nat.le_of_ble_eq_true rfl) ⟨rfl, rfl, rfl, rfl, trivial⟩ ?_
  refine j_iconst (p2 := 5) dM_sumF_4 rfl ?_
  refine j_istore (p2 := 7) (lv' := [(0, _), (1, _), (2, _), (3, _), (4, _)]) dM_sumF_5 rfl (Nat.le_of_ble_eq_true rfl) ⟨rfl, rfl, rfl, rfl, rfl, trivial⟩ ?_
  refine J.loc (lv' := [(0, _), (1, _), (2, _), (3, _), (4, _)]) ⟨rfl, rfl, rfl, rfl, rfl, trivial⟩ ?_
  exact loop 7 0 (by omega) (by omega)
end REF3
