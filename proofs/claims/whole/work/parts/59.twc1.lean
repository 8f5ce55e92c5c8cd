/-! ===== the class's twins: leaves ===== -/
/-- the patch of the class: N modules, cords as fr has them -/
abbrev CtI (σ : Hp) (fr : Int → Int) (N : Nat) : Prop := hI σ 3 0 = N ∧ N ≤ 20 ∧ (∀ m : Int, 0 ≤ m → m < N → 0 ≤ hI σ 4 m ∧ hI σ 4 m < 14) ∧ ∀ m i : Int, 0 ≤ m → m < N → 0 ≤ i → i < 6 → hI σ 9 (m * 6 + i) = fr (6 * m + i) ∧ (-1 ≤ fr (6 * m + i) ∧ fr (6 * m + i) < N) ∧ (0 ≤ hI σ 10 (6 * m + i) ∧ hI σ 10 (6 * m + i) ≤ 1)
/-- v is x, or 0.0 where x is a zero -/
def EqvD (v : UInt64) (x : UInt64) : Prop := v = cvD x ∨ (v = FP.dconst0 ∧ Acm arD x (Ac arD 0) = some .eq)
theorem acm_zD {x : UInt64} (h : Acm arD x (Ac arD 0) = some .eq) : Acm arD x (Ac arD 3) = some .lt ∧ Acm arD x (Ac arD 4) = some .gt := by
  have h : FP.Core.dcmp x 0 = some .eq := h
  rcases FP.Core.zero_bits h with e | e
  · subst e
    exact ⟨by decide +kernel, by decide +kernel⟩
  · subst e
    exact ⟨by decide +kernel, by decide +kernel⟩
theorem acm_hiD {x : UInt64} (h : Acm arD x (Ac arD 3) = some .gt) : Acm arD x (Ac arD 0) = some .gt := by
  have h : FP.Core.dcmp x 4609434218613702656 = some .gt := h
  obtain ⟨h1, h2, h3⟩ := FP.Core.dcmp_gt.mp h
  show FP.Core.dcmp x 0 = some .gt
  refine FP.Core.dcmp_gt.mpr ⟨h1, by decide +kernel, ?_⟩
  have e1 : FP.Core.zval FP.Core.b64 (FP.Core.val64 0) ≤ FP.Core.zval FP.Core.b64 (FP.Core.val64 4609434218613702656) := by decide +kernel
  exact Int.lt_of_le_of_lt e1 h3
theorem acm_loD {x : UInt64} (h : Acm arD x (Ac arD 4) = some .lt) : ¬ Acm arD x (Ac arD 0) = some .gt := by
  have h : FP.Core.dcmp x 13832806255468478464 = some .lt := h
  obtain ⟨h1, h2, h3⟩ := FP.Core.dcmp_lt.mp h
  intro g
  have g : FP.Core.dcmp x 0 = some .gt := g
  obtain ⟨g1, g2, g3⟩ := FP.Core.dcmp_gt.mp g
  have e1 : FP.Core.zval FP.Core.b64 (FP.Core.val64 13832806255468478464) ≤ FP.Core.zval FP.Core.b64 (FP.Core.val64 0) := by decide +kernel
  exact absurd (Int.lt_of_le_of_lt e1 g3) (Int.not_lt.mpr (Int.le_of_lt h3))
theorem eqv_cmpD {v : UInt64} {x : UInt64} (hx : vf_n64 x) (he : EqvD v x) : FP.dcmp v (csD 3) = Acm arD x (Ac arD 3) ∧ FP.dcmp v (csD 4) = Acm arD x (Ac arD 4) ∧ FP.dcmp v (csD 0) = Acm arD x (Ac arD 0) := by
  rcases he with e | ⟨e, hz⟩
  · subst e
    rw [← hcD_c 3 (by decide), ← hcD_c 4 (by decide), ← hcD_c 0 (by decide)]
    exact ⟨hcD_cmp hx (hcD_cf 3 (by decide)), hcD_cmp hx (hcD_cf 4 (by decide)), hcD_cmp hx (hcD_cf 0 (by decide))⟩
  · subst e
    rw [hz, (acm_zD hz).1, (acm_zD hz).2]
    exact ⟨by decide +kernel, by decide +kernel, by decide +kernel⟩
theorem gaft_eD (x : UInt64) : gaft arD x = if Acm arD x (Ac arD 3) = some .gt ∨ Acm arD x (Ac arD 4) = some .lt then (if Acm arD x (Ac arD 0) = some .gt then Ac arD 3 else Ac arD 4, true) else (if Acm arD x (Ac arD 0) = some .eq then Ac arD 0 else x, false) := rfl
/-- v is x, or 0.0 where x is a zero -/
def EqvF (v : UInt64) (x : UInt32) : Prop := v = cvF x ∨ (v = FP.dconst0 ∧ Acm arF x (Ac arF 0) = some .eq)
theorem acm_zF {x : UInt32} (h : Acm arF x (Ac arF 0) = some .eq) : Acm arF x (Ac arF 3) = some .lt ∧ Acm arF x (Ac arF 4) = some .gt := by
  have h : FP.Core.fcmp x 0 = some .eq := h
  rcases FP.Core.zero_bits32 h with e | e
  · subst e
    exact ⟨by decide +kernel, by decide +kernel⟩
  · subst e
    exact ⟨by decide +kernel, by decide +kernel⟩
theorem acm_hiF {x : UInt32} (h : Acm arF x (Ac arF 3) = some .gt) : Acm arF x (Ac arF 0) = some .gt := by
  have h : FP.Core.fcmp x 1069547520 = some .gt := h
  obtain ⟨h1, h2, h3⟩ := FP.Core.fcmp_gt.mp h
  show FP.Core.fcmp x 0 = some .gt
  refine FP.Core.fcmp_gt.mpr ⟨h1, by decide +kernel, ?_⟩
  have e1 : FP.Core.zval FP.Core.b32 (FP.Core.val32 0) ≤ FP.Core.zval FP.Core.b32 (FP.Core.val32 1069547520) := by decide +kernel
  exact Int.lt_of_le_of_lt e1 h3
theorem acm_loF {x : UInt32} (h : Acm arF x (Ac arF 4) = some .lt) : ¬ Acm arF x (Ac arF 0) = some .gt := by
  have h : FP.Core.fcmp x 3217031168 = some .lt := h
  obtain ⟨h1, h2, h3⟩ := FP.Core.fcmp_lt.mp h
  intro g
  have g : FP.Core.fcmp x 0 = some .gt := g
  obtain ⟨g1, g2, g3⟩ := FP.Core.fcmp_gt.mp g
  have e1 : FP.Core.zval FP.Core.b32 (FP.Core.val32 3217031168) ≤ FP.Core.zval FP.Core.b32 (FP.Core.val32 0) := by decide +kernel
  exact absurd (Int.lt_of_le_of_lt e1 g3) (Int.not_lt.mpr (Int.le_of_lt h3))
theorem eqv_cmpF {v : UInt64} {x : UInt32} (hx : vf_n32 x) (he : EqvF v x) : FP.dcmp v (csD 3) = Acm arF x (Ac arF 3) ∧ FP.dcmp v (csD 4) = Acm arF x (Ac arF 4) ∧ FP.dcmp v (csD 0) = Acm arF x (Ac arF 0) := by
  rcases he with e | ⟨e, hz⟩
  · subst e
    rw [← hcF_c 3 (by decide), ← hcF_c 4 (by decide), ← hcF_c 0 (by decide)]
    exact ⟨hcF_cmp hx (hcF_cf 3 (by decide)), hcF_cmp hx (hcF_cf 4 (by decide)), hcF_cmp hx (hcF_cf 0 (by decide))⟩
  · subst e
    rw [hz, (acm_zF hz).1, (acm_zF hz).2]
    exact ⟨by decide +kernel, by decide +kernel, by decide +kernel⟩
theorem gaft_eF (x : UInt32) : gaft arF x = if Acm arF x (Ac arF 3) = some .gt ∨ Acm arF x (Ac arF 4) = some .lt then (if Acm arF x (Ac arF 0) = some .gt then Ac arF 3 else Ac arF 4, true) else (if Acm arF x (Ac arF 0) = some .eq then Ac arF 0 else x, false) := rfl
section TWC1
variable {σ : Hp} {Q : Option PV → Hp → Prop}
theorem cTd_rounded {v : UInt64} (hfl : hI σ 21 3 = 0) (hv : vf_n64 v) (hQ : Q (some (vD (rndC false v))) σ) : Sp mT_rounded [vR 21, vD v] σ Q := by
  refine j_aload_n (p2 := 1) dT_rounded_0 rfl rfl ?_
  refine j_getZk (p2 := 4) dT_rounded_1 rfl fa_T_61 ly_21 rfl (ki := 3) rfl ?_
  refine j_if_eq (p2 := 7) (tg := 13) dT_rounded_4 rfl (by decide) (by rw [hfl]; decide) (fun h4 => ?_) (fun h4 => ?_)
  · refine j_dload_n (p2 := 14) dT_rounded_13 rfl rfl ?_
    refine j_dreturn dT_rounded_14 rfl (by first | (exfalso; omega) | exact hQ)
  · refine j_dload_n (p2 := 8) dT_rounded_7 rfl rfl ?_
    refine j_d2f (p2 := 9) dT_rounded_8 rfl (d2f_nn hv) ?_
    refine j_f2d (p2 := 10) dT_rounded_9 rfl (f2d_nn (d2f_nn hv)) ?_
    refine j_goto (p2 := 14) dT_rounded_10 (by decide) ?_
    refine j_dreturn dT_rounded_14 rfl (by first | (exfalso; omega) | exact hQ)
theorem cTd_light {m : Int} (hm : 0 ≤ m ∧ m < 20) (hl : inR (hI σ 20 m)) (hQ : Q none (wI σ 20 (lmp (hI σ 20) m (hI σ 19 1) true))) : Sp mL_light [vR 19, vI m] σ Q := by
  refine j_aload_n (p2 := 1) dL_light_0 rfl rfl ?_
  refine j_getR (p2 := 4) dL_light_1 rfl fa_L_9 ly_19 rfl ?_
  refine j_iload_n (p2 := 5) dL_light_4 rfl rfl ?_
  refine j_iald (p2 := 6) dL_light_5 rfl ly_20 (by decide) (by omega) (by omega) ?_
  refine j_iconst (p2 := 7) dL_light_6 rfl ?_
  refine j_icmp_ne (p2 := 10) (tg := 20) dL_light_7 rfl (by decide) (by constructor <;> omega) (by constructor <;> omega) (fun h7 => ?_) (fun h7 => ?_)
  · refine j_return dL_light_20 rfl (by first | (rw [lmp, if_neg (by omega), wI_id] at hQ; exact hQ) | (rw [lmp, if_pos ⟨rfl, by omega⟩] at hQ; exact hQ))
  · refine j_aload_n (p2 := 11) dL_light_10 rfl rfl ?_
    refine j_getR (p2 := 14) dL_light_11 rfl fa_L_9 ly_19 rfl ?_
    refine j_iload_n (p2 := 15) dL_light_14 rfl rfl ?_
    refine j_aload_n (p2 := 16) dL_light_15 rfl rfl ?_
    refine j_getIk (p2 := 19) dL_light_16 rfl fa_L_15 ly_19 rfl (ki := 1) rfl ?_
    refine j_iastk (p2 := 20) dL_light_19 rfl ly_20 (by decide) (by omega) (by omega) ?_
    refine j_return dL_light_20 rfl (by first | (rw [lmp, if_neg (by omega), wI_id] at hQ; exact hQ) | (rw [lmp, if_pos ⟨rfl, by omega⟩] at hQ; exact hQ))
theorem cTd_in {fr : Int → Int} {r : Int → UInt64} {N : Nat} {m i : Int} (hc : CtI σ fr N) (hm : 0 ≤ m ∧ m < N) (hi : 0 ≤ i ∧ i < 6) (hr : ∀ k : Int, 0 ≤ k → k < N → hD σ 22 k = cvD (r k) ∧ BdD (r k)) (hQ : Q (some (vD (cvD (ga arD fr (hI σ 10) r m i)))) σ) : Sp mT_in [vR 21, vI m, vI i] σ Q := by
  obtain ⟨c1, c2, c3, c4⟩ := hc
  obtain ⟨e9, f1, f2⟩ := c4 m i hm.1 hm.2 hi.1 hi.2
  have b9 : -1 ≤ hI σ 9 (m * 6 + i) ∧ hI σ 9 (m * 6 + i) < N := by rw [e9]; exact f1
  have e10 : m * 6 + i = 6 * m + i := by omega
  have b10 : 0 ≤ hI σ 10 (m * 6 + i) ∧ hI σ 10 (m * 6 + i) ≤ 1 := by rw [e10]; exact f2
  have no : hI σ 9 (m * 6 + i) = -1 → Q (some (vD FP.dconst0)) σ := fun h => by
    have : ga arD fr (hI σ 10) r m i = Ac arD 0 := by unfold ga; rw [if_pos (by rw [← e9]; exact h)]
    rw [this, hcD_c 0 (by decide)] at hQ; exact hQ
  have yes : ¬ hI σ 9 (m * 6 + i) = -1 → hI σ 10 (m * 6 + i) = 0 → Q (some (vD (hD σ 22 (hI σ 9 (m * 6 + i))))) σ := fun h g => by
    have : ga arD fr (hI σ 10) r m i = r (hI σ 9 (m * 6 + i)) := by unfold ga gin; rw [if_neg (by rw [← e9]; exact h), if_pos (by rw [← e10]; exact g), e9]
    rw [this, ← (hr _ (by omega) (by omega)).1] at hQ; exact hQ
  have trn : ¬ hI σ 9 (m * 6 + i) = -1 → ¬ hI σ 10 (m * 6 + i) = 0 → Q (some (vD (FP.dneg (hD σ 22 (hI σ 9 (m * 6 + i)))))) σ := fun h g => by
    have : ga arD fr (hI σ 10) r m i = Aneg arD (r (hI σ 9 (m * 6 + i))) := by unfold ga gin; rw [if_neg (by rw [← e9]; exact h), if_neg (by rw [← e10]; exact g), e9]
    have hk := hr (hI σ 9 (m * 6 + i)) (by omega) (by omega)
    rw [this, ← hcD_neg hk.2.fn, ← hk.1] at hQ; exact hQ
  refine j_aload_n (p2 := 1) dT_in_0 rfl rfl ?_
  refine j_getR (p2 := 4) dT_in_1 rfl fa_T_49 ly_21 rfl ?_
  refine j_getR (p2 := 7) dT_in_4 rfl fa_T_184 ly_3 rfl ?_
  refine j_iload_n (p2 := 8) dT_in_7 rfl rfl ?_
  refine j_bipush (v := 6) (p2 := 10) dT_in_8 rfl rfl ?_
  refine j_imul (p2 := 11) dT_in_10 rfl ?_
  refine j_iload_n (p2 := 12) dT_in_11 rfl rfl ?_
  refine j_iadd (p2 := 13) dT_in_12 rfl ?_
  refine j_iald (p2 := 14) dT_in_13 rfl ly_9 (by decide) (by omega) (by omega) ?_
  refine j_istore_n (p2 := 15) (lv' := [(0, _), (1, _), (2, _), (3, _)]) dT_in_14 rfl (Nat.le_of_ble_eq_true rfl) ⟨rfl, rfl, rfl, rfl, trivial⟩ ?_
  refine j_iload_n (p2 := 16) dT_in_15 rfl rfl ?_
  refine j_iconst (p2 := 17) dT_in_16 rfl ?_
  refine j_icmp_ne (p2 := 20) (tg := 22) dT_in_17 rfl (by decide) (by constructor <;> omega) (by constructor <;> omega) (fun h17 => ?_) (fun h17 => ?_)
  · refine j_aload_n (p2 := 23) dT_in_22 rfl rfl ?_
    refine j_getR (p2 := 26) dT_in_23 rfl fa_T_49 ly_21 rfl ?_
    refine j_getR (p2 := 29) dT_in_26 rfl fa_T_187 ly_3 rfl ?_
    refine j_iload_n (p2 := 30) dT_in_29 rfl rfl ?_
    refine j_bipush (v := 6) (p2 := 32) dT_in_30 rfl rfl ?_
    refine j_imul (p2 := 33) dT_in_32 rfl ?_
    refine j_iload_n (p2 := 34) dT_in_33 rfl rfl ?_
    refine j_iadd (p2 := 35) dT_in_34 rfl ?_
    refine j_zald (p2 := 36) dT_in_35 rfl ly_10 (by decide) (by omega) (by omega) ?_
    refine j_if_eq (p2 := 39) (tg := 49) dT_in_36 rfl (by decide) (by constructor <;> omega) (fun h36 => ?_) (fun h36 => ?_)
    · refine j_aload_n (p2 := 50) dT_in_49 rfl rfl ?_
      refine j_getR (p2 := 53) dT_in_50 rfl fa_T_9 ly_21 rfl ?_
      refine j_iload_n (p2 := 54) dT_in_53 rfl rfl ?_
      refine j_dald (p2 := 55) dT_in_54 rfl ly_22 (by decide) (by omega) (by omega) ?_
      refine j_dreturn dT_in_55 rfl (by first | exact no h17 | exact yes h17 h36 | exact trn h17 h36)
    · refine j_aload_n (p2 := 40) dT_in_39 rfl rfl ?_
      refine j_getR (p2 := 43) dT_in_40 rfl fa_T_9 ly_21 rfl ?_
      refine j_iload_n (p2 := 44) dT_in_43 rfl rfl ?_
      refine j_dald (p2 := 45) dT_in_44 rfl ly_22 (by decide) (by omega) (by omega) ?_
      refine j_dneg (p2 := 46) dT_in_45 rfl ?_
      refine j_goto (p2 := 55) dT_in_46 (by decide) ?_
      refine j_dreturn dT_in_55 rfl (by first | exact no h17 | exact yes h17 h36 | exact trn h17 h36)
  · refine j_dconst0 (p2 := 21) dT_in_20 rfl ?_
    refine j_dreturn dT_in_21 rfl (by first | exact no h17 | exact yes h17 h36 | exact trn h17 h36)
theorem cTf_rounded {v : UInt64} (hfl : hI σ 34 3 = 1) (hv : vf_n64 v) (hQ : Q (some (vD (rndC true v))) σ) : Sp mT_rounded [vR 34, vD v] σ Q := by
  refine j_aload_n (p2 := 1) dT_rounded_0 rfl rfl ?_
  refine j_getZk (p2 := 4) dT_rounded_1 rfl fa_T_61 ly_34 rfl (ki := 3) rfl ?_
  refine j_if_eq (p2 := 7) (tg := 13) dT_rounded_4 rfl (by decide) (by rw [hfl]; decide) (fun h4 => ?_) (fun h4 => ?_)
  · refine j_dload_n (p2 := 14) dT_rounded_13 rfl rfl ?_
    refine j_dreturn dT_rounded_14 rfl (by first | (exfalso; omega) | exact hQ)
  · refine j_dload_n (p2 := 8) dT_rounded_7 rfl rfl ?_
    refine j_d2f (p2 := 9) dT_rounded_8 rfl (d2f_nn hv) ?_
    refine j_f2d (p2 := 10) dT_rounded_9 rfl (f2d_nn (d2f_nn hv)) ?_
    refine j_goto (p2 := 14) dT_rounded_10 (by decide) ?_
    refine j_dreturn dT_rounded_14 rfl (by first | (exfalso; omega) | exact hQ)
theorem cTf_light {m : Int} (hm : 0 ≤ m ∧ m < 20) (hl : inR (hI σ 20 m)) (hQ : Q none (wI σ 20 (lmp (hI σ 20) m (hI σ 19 1) true))) : Sp mL_light [vR 19, vI m] σ Q := by
  refine j_aload_n (p2 := 1) dL_light_0 rfl rfl ?_
  refine j_getR (p2 := 4) dL_light_1 rfl fa_L_9 ly_19 rfl ?_
  refine j_iload_n (p2 := 5) dL_light_4 rfl rfl ?_
  refine j_iald (p2 := 6) dL_light_5 rfl ly_20 (by decide) (by omega) (by omega) ?_
  refine j_iconst (p2 := 7) dL_light_6 rfl ?_
  refine j_icmp_ne (p2 := 10) (tg := 20) dL_light_7 rfl (by decide) (by constructor <;> omega) (by constructor <;> omega) (fun h7 => ?_) (fun h7 => ?_)
  · refine j_return dL_light_20 rfl (by first | (rw [lmp, if_neg (by omega), wI_id] at hQ; exact hQ) | (rw [lmp, if_pos ⟨rfl, by omega⟩] at hQ; exact hQ))
  · refine j_aload_n (p2 := 11) dL_light_10 rfl rfl ?_
    refine j_getR (p2 := 14) dL_light_11 rfl fa_L_9 ly_19 rfl ?_
    refine j_iload_n (p2 := 15) dL_light_14 rfl rfl ?_
    refine j_aload_n (p2 := 16) dL_light_15 rfl rfl ?_
    refine j_getIk (p2 := 19) dL_light_16 rfl fa_L_15 ly_19 rfl (ki := 1) rfl ?_
    refine j_iastk (p2 := 20) dL_light_19 rfl ly_20 (by decide) (by omega) (by omega) ?_
    refine j_return dL_light_20 rfl (by first | (rw [lmp, if_neg (by omega), wI_id] at hQ; exact hQ) | (rw [lmp, if_pos ⟨rfl, by omega⟩] at hQ; exact hQ))
theorem cTf_in {fr : Int → Int} {r : Int → UInt32} {N : Nat} {m i : Int} (hc : CtI σ fr N) (hm : 0 ≤ m ∧ m < N) (hi : 0 ≤ i ∧ i < 6) (hr : ∀ k : Int, 0 ≤ k → k < N → hD σ 35 k = cvF (r k) ∧ BdF (r k)) (hQ : Q (some (vD (cvF (ga arF fr (hI σ 10) r m i)))) σ) : Sp mT_in [vR 34, vI m, vI i] σ Q := by
  obtain ⟨c1, c2, c3, c4⟩ := hc
  obtain ⟨e9, f1, f2⟩ := c4 m i hm.1 hm.2 hi.1 hi.2
  have b9 : -1 ≤ hI σ 9 (m * 6 + i) ∧ hI σ 9 (m * 6 + i) < N := by rw [e9]; exact f1
  have e10 : m * 6 + i = 6 * m + i := by omega
  have b10 : 0 ≤ hI σ 10 (m * 6 + i) ∧ hI σ 10 (m * 6 + i) ≤ 1 := by rw [e10]; exact f2
  have no : hI σ 9 (m * 6 + i) = -1 → Q (some (vD FP.dconst0)) σ := fun h => by
    have : ga arF fr (hI σ 10) r m i = Ac arF 0 := by unfold ga; rw [if_pos (by rw [← e9]; exact h)]
    rw [this, hcF_c 0 (by decide)] at hQ; exact hQ
  have yes : ¬ hI σ 9 (m * 6 + i) = -1 → hI σ 10 (m * 6 + i) = 0 → Q (some (vD (hD σ 35 (hI σ 9 (m * 6 + i))))) σ := fun h g => by
    have : ga arF fr (hI σ 10) r m i = r (hI σ 9 (m * 6 + i)) := by unfold ga gin; rw [if_neg (by rw [← e9]; exact h), if_pos (by rw [← e10]; exact g), e9]
    rw [this, ← (hr _ (by omega) (by omega)).1] at hQ; exact hQ
  have trn : ¬ hI σ 9 (m * 6 + i) = -1 → ¬ hI σ 10 (m * 6 + i) = 0 → Q (some (vD (FP.dneg (hD σ 35 (hI σ 9 (m * 6 + i)))))) σ := fun h g => by
    have : ga arF fr (hI σ 10) r m i = Aneg arF (r (hI σ 9 (m * 6 + i))) := by unfold ga gin; rw [if_neg (by rw [← e9]; exact h), if_neg (by rw [← e10]; exact g), e9]
    have hk := hr (hI σ 9 (m * 6 + i)) (by omega) (by omega)
    rw [this, ← hcF_neg hk.2.fn, ← hk.1] at hQ; exact hQ
  refine j_aload_n (p2 := 1) dT_in_0 rfl rfl ?_
  refine j_getR (p2 := 4) dT_in_1 rfl fa_T_49 ly_34 rfl ?_
  refine j_getR (p2 := 7) dT_in_4 rfl fa_T_184 ly_3 rfl ?_
  refine j_iload_n (p2 := 8) dT_in_7 rfl rfl ?_
  refine j_bipush (v := 6) (p2 := 10) dT_in_8 rfl rfl ?_
  refine j_imul (p2 := 11) dT_in_10 rfl ?_
  refine j_iload_n (p2 := 12) dT_in_11 rfl rfl ?_
  refine j_iadd (p2 := 13) dT_in_12 rfl ?_
  refine j_iald (p2 := 14) dT_in_13 rfl ly_9 (by decide) (by omega) (by omega) ?_
  refine j_istore_n (p2 := 15) (lv' := [(0, _), (1, _), (2, _), (3, _)]) dT_in_14 rfl (Nat.le_of_ble_eq_true rfl) ⟨rfl, rfl, rfl, rfl, trivial⟩ ?_
  refine j_iload_n (p2 := 16) dT_in_15 rfl rfl ?_
  refine j_iconst (p2 := 17) dT_in_16 rfl ?_
  refine j_icmp_ne (p2 := 20) (tg := 22) dT_in_17 rfl (by decide) (by constructor <;> omega) (by constructor <;> omega) (fun h17 => ?_) (fun h17 => ?_)
  · refine j_aload_n (p2 := 23) dT_in_22 rfl rfl ?_
    refine j_getR (p2 := 26) dT_in_23 rfl fa_T_49 ly_34 rfl ?_
    refine j_getR (p2 := 29) dT_in_26 rfl fa_T_187 ly_3 rfl ?_
    refine j_iload_n (p2 := 30) dT_in_29 rfl rfl ?_
    refine j_bipush (v := 6) (p2 := 32) dT_in_30 rfl rfl ?_
    refine j_imul (p2 := 33) dT_in_32 rfl ?_
    refine j_iload_n (p2 := 34) dT_in_33 rfl rfl ?_
    refine j_iadd (p2 := 35) dT_in_34 rfl ?_
    refine j_zald (p2 := 36) dT_in_35 rfl ly_10 (by decide) (by omega) (by omega) ?_
    refine j_if_eq (p2 := 39) (tg := 49) dT_in_36 rfl (by decide) (by constructor <;> omega) (fun h36 => ?_) (fun h36 => ?_)
    · refine j_aload_n (p2 := 50) dT_in_49 rfl rfl ?_
      refine j_getR (p2 := 53) dT_in_50 rfl fa_T_9 ly_34 rfl ?_
      refine j_iload_n (p2 := 54) dT_in_53 rfl rfl ?_
      refine j_dald (p2 := 55) dT_in_54 rfl ly_35 (by decide) (by omega) (by omega) ?_
      refine j_dreturn dT_in_55 rfl (by first | exact no h17 | exact yes h17 h36 | exact trn h17 h36)
    · refine j_aload_n (p2 := 40) dT_in_39 rfl rfl ?_
      refine j_getR (p2 := 43) dT_in_40 rfl fa_T_9 ly_34 rfl ?_
      refine j_iload_n (p2 := 44) dT_in_43 rfl rfl ?_
      refine j_dald (p2 := 45) dT_in_44 rfl ly_35 (by decide) (by omega) (by omega) ?_
      refine j_dneg (p2 := 46) dT_in_45 rfl ?_
      refine j_goto (p2 := 55) dT_in_46 (by decide) ?_
      refine j_dreturn dT_in_55 rfl (by first | exact no h17 | exact yes h17 h36 | exact trn h17 h36)
  · refine j_dconst0 (p2 := 21) dT_in_20 rfl ?_
    refine j_dreturn dT_in_21 rfl (by first | exact no h17 | exact yes h17 h36 | exact trn h17 h36)
theorem cTt_rounded {v : UInt64} (hfl : hI σ 56 3 = 0) (hv : vf_n64 v) (hQ : Q (some (vD (rndC false v))) σ) : Sp mT_rounded [vR 56, vD v] σ Q := by
  refine j_aload_n (p2 := 1) dT_rounded_0 rfl rfl ?_
  refine j_getZk (p2 := 4) dT_rounded_1 rfl fa_T_61 ly_56 rfl (ki := 3) rfl ?_
  refine j_if_eq (p2 := 7) (tg := 13) dT_rounded_4 rfl (by decide) (by rw [hfl]; decide) (fun h4 => ?_) (fun h4 => ?_)
  · refine j_dload_n (p2 := 14) dT_rounded_13 rfl rfl ?_
    refine j_dreturn dT_rounded_14 rfl (by first | (exfalso; omega) | exact hQ)
  · refine j_dload_n (p2 := 8) dT_rounded_7 rfl rfl ?_
    refine j_d2f (p2 := 9) dT_rounded_8 rfl (d2f_nn hv) ?_
    refine j_f2d (p2 := 10) dT_rounded_9 rfl (f2d_nn (d2f_nn hv)) ?_
    refine j_goto (p2 := 14) dT_rounded_10 (by decide) ?_
    refine j_dreturn dT_rounded_14 rfl (by first | (exfalso; omega) | exact hQ)
theorem cTt_light {m : Int} (hm : 0 ≤ m ∧ m < 20) (hl : inR (hI σ 55 m)) (hQ : Q none (wI σ 55 (lmp (hI σ 55) m (hI σ 54 1) true))) : Sp mL_light [vR 54, vI m] σ Q := by
  refine j_aload_n (p2 := 1) dL_light_0 rfl rfl ?_
  refine j_getR (p2 := 4) dL_light_1 rfl fa_L_9 ly_54 rfl ?_
  refine j_iload_n (p2 := 5) dL_light_4 rfl rfl ?_
  refine j_iald (p2 := 6) dL_light_5 rfl ly_55 (by decide) (by omega) (by omega) ?_
  refine j_iconst (p2 := 7) dL_light_6 rfl ?_
  refine j_icmp_ne (p2 := 10) (tg := 20) dL_light_7 rfl (by decide) (by constructor <;> omega) (by constructor <;> omega) (fun h7 => ?_) (fun h7 => ?_)
  · refine j_return dL_light_20 rfl (by first | (rw [lmp, if_neg (by omega), wI_id] at hQ; exact hQ) | (rw [lmp, if_pos ⟨rfl, by omega⟩] at hQ; exact hQ))
  · refine j_aload_n (p2 := 11) dL_light_10 rfl rfl ?_
    refine j_getR (p2 := 14) dL_light_11 rfl fa_L_9 ly_54 rfl ?_
    refine j_iload_n (p2 := 15) dL_light_14 rfl rfl ?_
    refine j_aload_n (p2 := 16) dL_light_15 rfl rfl ?_
    refine j_getIk (p2 := 19) dL_light_16 rfl fa_L_15 ly_54 rfl (ki := 1) rfl ?_
    refine j_iastk (p2 := 20) dL_light_19 rfl ly_55 (by decide) (by omega) (by omega) ?_
    refine j_return dL_light_20 rfl (by first | (rw [lmp, if_neg (by omega), wI_id] at hQ; exact hQ) | (rw [lmp, if_pos ⟨rfl, by omega⟩] at hQ; exact hQ))
theorem cTt_in {fr : Int → Int} {r : Int → UInt64} {N : Nat} {m i : Int} (hc : CtI σ fr N) (hm : 0 ≤ m ∧ m < N) (hi : 0 ≤ i ∧ i < 6) (hr : ∀ k : Int, 0 ≤ k → k < N → hD σ 57 k = cvD (r k) ∧ BdD (r k)) (hQ : Q (some (vD (cvD (ga arD fr (hI σ 10) r m i)))) σ) : Sp mT_in [vR 56, vI m, vI i] σ Q := by
  obtain ⟨c1, c2, c3, c4⟩ := hc
  obtain ⟨e9, f1, f2⟩ := c4 m i hm.1 hm.2 hi.1 hi.2
  have b9 : -1 ≤ hI σ 9 (m * 6 + i) ∧ hI σ 9 (m * 6 + i) < N := by rw [e9]; exact f1
  have e10 : m * 6 + i = 6 * m + i := by omega
  have b10 : 0 ≤ hI σ 10 (m * 6 + i) ∧ hI σ 10 (m * 6 + i) ≤ 1 := by rw [e10]; exact f2
  have no : hI σ 9 (m * 6 + i) = -1 → Q (some (vD FP.dconst0)) σ := fun h => by
    have : ga arD fr (hI σ 10) r m i = Ac arD 0 := by unfold ga; rw [if_pos (by rw [← e9]; exact h)]
    rw [this, hcD_c 0 (by decide)] at hQ; exact hQ
  have yes : ¬ hI σ 9 (m * 6 + i) = -1 → hI σ 10 (m * 6 + i) = 0 → Q (some (vD (hD σ 57 (hI σ 9 (m * 6 + i))))) σ := fun h g => by
    have : ga arD fr (hI σ 10) r m i = r (hI σ 9 (m * 6 + i)) := by unfold ga gin; rw [if_neg (by rw [← e9]; exact h), if_pos (by rw [← e10]; exact g), e9]
    rw [this, ← (hr _ (by omega) (by omega)).1] at hQ; exact hQ
  have trn : ¬ hI σ 9 (m * 6 + i) = -1 → ¬ hI σ 10 (m * 6 + i) = 0 → Q (some (vD (FP.dneg (hD σ 57 (hI σ 9 (m * 6 + i)))))) σ := fun h g => by
    have : ga arD fr (hI σ 10) r m i = Aneg arD (r (hI σ 9 (m * 6 + i))) := by unfold ga gin; rw [if_neg (by rw [← e9]; exact h), if_neg (by rw [← e10]; exact g), e9]
    have hk := hr (hI σ 9 (m * 6 + i)) (by omega) (by omega)
    rw [this, ← hcD_neg hk.2.fn, ← hk.1] at hQ; exact hQ
  refine j_aload_n (p2 := 1) dT_in_0 rfl rfl ?_
  refine j_getR (p2 := 4) dT_in_1 rfl fa_T_49 ly_56 rfl ?_
  refine j_getR (p2 := 7) dT_in_4 rfl fa_T_184 ly_3 rfl ?_
  refine j_iload_n (p2 := 8) dT_in_7 rfl rfl ?_
  refine j_bipush (v := 6) (p2 := 10) dT_in_8 rfl rfl ?_
  refine j_imul (p2 := 11) dT_in_10 rfl ?_
  refine j_iload_n (p2 := 12) dT_in_11 rfl rfl ?_
  refine j_iadd (p2 := 13) dT_in_12 rfl ?_
  refine j_iald (p2 := 14) dT_in_13 rfl ly_9 (by decide) (by omega) (by omega) ?_
  refine j_istore_n (p2 := 15) (lv' := [(0, _), (1, _), (2, _), (3, _)]) dT_in_14 rfl (Nat.le_of_ble_eq_true rfl) ⟨rfl, rfl, rfl, rfl, trivial⟩ ?_
  refine j_iload_n (p2 := 16) dT_in_15 rfl rfl ?_
  refine j_iconst (p2 := 17) dT_in_16 rfl ?_
  refine j_icmp_ne (p2 := 20) (tg := 22) dT_in_17 rfl (by decide) (by constructor <;> omega) (by constructor <;> omega) (fun h17 => ?_) (fun h17 => ?_)
  · refine j_aload_n (p2 := 23) dT_in_22 rfl rfl ?_
    refine j_getR (p2 := 26) dT_in_23 rfl fa_T_49 ly_56 rfl ?_
    refine j_getR (p2 := 29) dT_in_26 rfl fa_T_187 ly_3 rfl ?_
    refine j_iload_n (p2 := 30) dT_in_29 rfl rfl ?_
    refine j_bipush (v := 6) (p2 := 32) dT_in_30 rfl rfl ?_
    refine j_imul (p2 := 33) dT_in_32 rfl ?_
    refine j_iload_n (p2 := 34) dT_in_33 rfl rfl ?_
    refine j_iadd (p2 := 35) dT_in_34 rfl ?_
    refine j_zald (p2 := 36) dT_in_35 rfl ly_10 (by decide) (by omega) (by omega) ?_
    refine j_if_eq (p2 := 39) (tg := 49) dT_in_36 rfl (by decide) (by constructor <;> omega) (fun h36 => ?_) (fun h36 => ?_)
    · refine j_aload_n (p2 := 50) dT_in_49 rfl rfl ?_
      refine j_getR (p2 := 53) dT_in_50 rfl fa_T_9 ly_56 rfl ?_
      refine j_iload_n (p2 := 54) dT_in_53 rfl rfl ?_
      refine j_dald (p2 := 55) dT_in_54 rfl ly_57 (by decide) (by omega) (by omega) ?_
      refine j_dreturn dT_in_55 rfl (by first | exact no h17 | exact yes h17 h36 | exact trn h17 h36)
    · refine j_aload_n (p2 := 40) dT_in_39 rfl rfl ?_
      refine j_getR (p2 := 43) dT_in_40 rfl fa_T_9 ly_56 rfl ?_
      refine j_iload_n (p2 := 44) dT_in_43 rfl rfl ?_
      refine j_dald (p2 := 45) dT_in_44 rfl ly_57 (by decide) (by omega) (by omega) ?_
      refine j_dneg (p2 := 46) dT_in_45 rfl ?_
      refine j_goto (p2 := 55) dT_in_46 (by decide) ?_
      refine j_dreturn dT_in_55 rfl (by first | exact no h17 | exact yes h17 h36 | exact trn h17 h36)
  · refine j_dconst0 (p2 := 21) dT_in_20 rfl ?_
    refine j_dreturn dT_in_21 rfl (by first | exact no h17 | exact yes h17 h36 | exact trn h17 h36)
theorem ga_bdD {fr tu : Int → Int} {r : Int → UInt64} {N : Nat} {m i : Int} (h1 : -1 ≤ fr (6 * m + i) ∧ fr (6 * m + i) < N) (hr : ∀ k : Int, 0 ≤ k → k < N → BdD (r k)) : BdD (ga arD fr tu r m i) := ga_mg (fun h => hr _ (by omega) (by omega))
theorem gsum_fnD {fr tu : Int → Int} {r : Int → UInt64} {N : Nat} {m : Int} (h1 : ∀ i : Int, 0 ≤ i → i < 6 → -1 ≤ fr (6 * m + i) ∧ fr (6 * m + i) < N) (hr : ∀ k : Int, 0 ≤ k → k < N → BdD (r k)) (i : Nat) (hi : i ≤ 6) : FnD FP.dconst0 ∧ FnD (gsum arD fr tu r m i).1 :=
  ⟨hcD_cf 0 (by decide), mg.fin (gsum_mg (fun j hj h => by have := h1 j (by omega) (by omega); exact hr _ (by omega) (by omega)) i hi) (by omega)⟩
theorem ga_bdF {fr tu : Int → Int} {r : Int → UInt32} {N : Nat} {m i : Int} (h1 : -1 ≤ fr (6 * m + i) ∧ fr (6 * m + i) < N) (hr : ∀ k : Int, 0 ≤ k → k < N → BdF (r k)) : BdF (ga arF fr tu r m i) := ga_mf (fun h => hr _ (by omega) (by omega))
theorem gsum_fnF {fr tu : Int → Int} {r : Int → UInt32} {N : Nat} {m : Int} (h1 : ∀ i : Int, 0 ≤ i → i < 6 → -1 ≤ fr (6 * m + i) ∧ fr (6 * m + i) < N) (hr : ∀ k : Int, 0 ≤ k → k < N → BdF (r k)) (i : Nat) (hi : i ≤ 6) : FnD FP.dconst0 ∧ FnF (gsum arF fr tu r m i).1 :=
  ⟨hcD_cf 0 (by decide), mf.fin (gsum_mf (fun j hj h => by have := h1 j (by omega) (by omega); exact hr _ (by omega) (by omega)) i hi) (by omega)⟩
theorem cTd_inputSum {fr : Int → Int} {r : Int → UInt64} {N : Nat} {m : Int} (hc : CtI σ fr N) (hfl : hI σ 21 3 = 0) (hm : 0 ≤ m ∧ m < N) (hr : ∀ k : Int, 0 ≤ k → k < N → hD σ 22 k = cvD (r k) ∧ BdD (r k)) (hQ : Q (some (vD (cvD (gsum arD fr (hI σ 10) r m 6).1))) σ) : Sp mT_inputSum [vR 21, vI m] σ Q := by
  have hc0 := hc
  obtain ⟨c1, c2, c3, c4⟩ := hc
  have hfn := fun i hi => (gsum_fnD (fr := fr) (tu := hI σ 10) (r := r) (N := N) (m := m) (fun i a b => (c4 m i hm.1 hm.2 a b).2.1) (fun k a b => (hr k a b).2) i hi).2
  have loop : ∀ (n i : Nat), i ≤ 6 → 7 ≤ i + n → J mT_inputSum 8 [(0, vR 21), (1, vI m), (2, vD (cvD (gsum arD fr (hI σ 10) r m i).1)), (4, vI (bI (!(gsum arD fr (hI σ 10) r m i).2))), (5, vI i)] [] σ Q := by
    intro n
    induction n with
    | zero => intro i h1 h2; exact absurd h2 (by omega)
    | succ n ih =>
      intro i h1 h2
      have cb : i < 6 → hI σ 9 (m * 6 + i) = fr (6 * m + i) ∧ (-1 ≤ fr (6 * m + i) ∧ fr (6 * m + i) < N) := fun h => ⟨(c4 m i hm.1 hm.2 (by omega) (by omega)).1, (c4 m i hm.1 hm.2 (by omega) (by omega)).2.1⟩
      have b9 : i < 6 → -1 ≤ hI σ 9 (m * 6 + i) ∧ hI σ 9 (m * 6 + i) < N := fun h => by rw [(cb h).1]; exact (cb h).2
      have hg : i < 6 → BdD (ga arD fr (hI σ 10) r m i) := fun h => ga_bdD (cb h).2 (fun k a b => (hr k a b).2)
      have k0 : i < 6 → hI σ 9 (m * 6 + i) = -1 → J mT_inputSum 8 [(0, vR 21), (1, vI m), (2, vD (cvD (gsum arD fr (hI σ 10) r m i).1)), (4, vI (bI (!(gsum arD fr (hI σ 10) r m i).2))), (5, vI (i + 1))] [] σ Q := fun hi h => by
        have := ih (i + 1) (by omega) (by omega)
        rw [gsum_no (by rw [← (cb hi).1]; exact h)] at this; exact this
      have k1 : i < 6 → ¬ hI σ 9 (m * 6 + i) = -1 → (!(gsum arD fr (hI σ 10) r m i).2) = false → J mT_inputSum 8 [(0, vR 21), (1, vI m), (2, vD (cvD (ga arD fr (hI σ 10) r m i))), (4, vI 1), (5, vI (i + 1))] [] σ Q := fun hi h g => by
        have := ih (i + 1) (by omega) (by omega)
        have h : ¬ fr (6 * m + i) = -1 := by rw [← (cb hi).1]; exact h
        have e : ga arD fr (hI σ 10) r m i = gin arD fr (hI σ 10) r m i := if_neg h
        rw [gsum_1 h (by simpa using g)] at this
        rw [e]; exact this
      have k2 : i < 6 → ¬ hI σ 9 (m * 6 + i) = -1 → (!(gsum arD fr (hI σ 10) r m i).2) = true → J mT_inputSum 8 [(0, vR 21), (1, vI m), (2, vD (rndC false (FP.dadd (cvD (gsum arD fr (hI σ 10) r m i).1) (cvD (ga arD fr (hI σ 10) r m i))))), (4, vI 1), (5, vI (i + 1))] [] σ Q := fun hi h g => by
        have := ih (i + 1) (by omega) (by omega)
        have h : ¬ fr (6 * m + i) = -1 := by rw [← (cb hi).1]; exact h
        have e : ga arD fr (hI σ 10) r m i = gin arD fr (hI σ 10) r m i := if_neg h
        rw [gsum_2 h (by simpa using g)] at this
        rw [hcD_add (hfn i (by omega)) (hg hi).fn, e]; exact this
      have nn : i < 6 → vf_n64 (FP.dadd (cvD (gsum arD fr (hI σ 10) r m i).1) (cvD (ga arD fr (hI σ 10) r m i))) := fun hi => nn_add2 (cvD_fn (hfn i (by omega))) (cvD_fn (hg hi).fn)
      refine j_iload (p2 := 10) dT_inputSum_8 rfl rfl ?_
      refine j_bipush (v := 6) (p2 := 12) dT_inputSum_10 rfl rfl ?_
      refine j_icmp_ge (p2 := 15) (tg := 72) dT_inputSum_12 rfl (by decide) (by constructor <;> omega) (by constructor <;> omega) (fun h12 => ?_) (fun h12 => ?_)
      · refine j_dload_n (p2 := 73) dT_inputSum_72 rfl rfl ?_
        refine j_dreturn dT_inputSum_73 rfl (by have e : i = 6 := (by omega); subst e; exact hQ)
      · refine j_aload_n (p2 := 16) dT_inputSum_15 rfl rfl ?_
        refine j_getR (p2 := 19) dT_inputSum_16 rfl fa_T_49 ly_21 rfl ?_
        refine j_getR (p2 := 22) dT_inputSum_19 rfl fa_T_184 ly_3 rfl ?_
        refine j_iload_n (p2 := 23) dT_inputSum_22 rfl rfl ?_
        refine j_bipush (v := 6) (p2 := 25) dT_inputSum_23 rfl rfl ?_
        refine j_imul (p2 := 26) dT_inputSum_25 rfl ?_
        refine j_iload (p2 := 28) dT_inputSum_26 rfl rfl ?_
        refine j_iadd (p2 := 29) dT_inputSum_28 rfl ?_
        refine j_iald (p2 := 30) dT_inputSum_29 rfl ly_9 (by decide) (by omega) (by omega) ?_
        refine j_iconst (p2 := 31) dT_inputSum_30 rfl ?_
        refine j_icmp_eq (p2 := 34) (tg := 66) dT_inputSum_31 rfl (by decide) (by have := b9 (by omega); constructor <;> omega) (by constructor <;> omega) (fun h31 => ?_) (fun h31 => ?_)
        · refine j_iinc (p2 := 69) (lv' := [(0, _), (1, _), (2, _), (4, _), (5, _)]) dT_inputSum_66 rfl (Nat.le_of_ble_eq_true rfl) rfl ⟨rfl, rfl, rfl, rfl, rfl, trivial⟩ ?_
          refine j_goto (p2 := 8) dT_inputSum_69 (by decide) ?_
          refine J.loc (lv' := [(0, _), (1, _), (2, _), (4, _), (5, _)]) ⟨rfl, rfl, rfl, rfl, rfl, trivial⟩ ?_
          first
            | exact k0 (by omega) h31
            | exact k1 (by omega) h31 h36
            | exact k2 (by omega) h31 h36
        · refine j_iload (p2 := 36) dT_inputSum_34 rfl rfl ?_
          refine j_ifb_eq (p2 := 39) (tg := 55) dT_inputSum_36 rfl (by decide) (fun h36 => ?_) (fun h36 => ?_)
          · refine j_aload_n (p2 := 56) dT_inputSum_55 rfl rfl ?_
            refine j_iload_n (p2 := 57) dT_inputSum_56 rfl rfl ?_
            refine j_iload (p2 := 59) dT_inputSum_57 rfl rfl ?_
            refine j_callV (m' := mT_in) (As := [_, _]) (p2 := 62) dT_inputSum_59 rfl ml_T_134 ok_mT_in im_mT_in se_mT_in rfl rfl (Nat.le_of_ble_eq_true rfl) ly_21 rfl (Nat.le_of_ble_eq_true rfl) ⟨(Nat.le_of_ble_eq_true rfl), (Nat.le_of_ble_eq_true rfl)⟩ ?_
            refine cTd_in hc0 hm (by omega) hr ?_
            refine j_dstore_n (p2 := 63) (lv' := [(0, _), (1, _), (2, _), (5, _)]) dT_inputSum_62 rfl (Nat.le_of_ble_eq_true rfl) ⟨rfl, rfl, rfl, rfl, trivial⟩ ?_
            refine j_iconst (p2 := 64) dT_inputSum_63 rfl ?_
            refine j_istore (p2 := 66) (lv' := [(0, _), (1, _), (2, _), (4, _), (5, _)]) dT_inputSum_64 rfl (Nat.le_of_ble_eq_true rfl) ⟨rfl, rfl, rfl, rfl, rfl, trivial⟩ ?_
            refine j_iinc (p2 := 69) (lv' := [(0, _), (1, _), (2, _), (4, _), (5, _)]) dT_inputSum_66 rfl (Nat.le_of_ble_eq_true rfl) rfl ⟨rfl, rfl, rfl, rfl, rfl, trivial⟩ ?_
            refine j_goto (p2 := 8) dT_inputSum_69 (by decide) ?_
            refine J.loc (lv' := [(0, _), (1, _), (2, _), (4, _), (5, _)]) ⟨rfl, rfl, rfl, rfl, rfl, trivial⟩ ?_
            first
              | exact k0 (by omega) h31
              | exact k1 (by omega) h31 h36
              | exact k2 (by omega) h31 h36
          · refine j_aload_n (p2 := 40) dT_inputSum_39 rfl rfl ?_
            refine j_dload_n (p2 := 41) dT_inputSum_40 rfl rfl ?_
            refine j_aload_n (p2 := 42) dT_inputSum_41 rfl rfl ?_
            refine j_iload_n (p2 := 43) dT_inputSum_42 rfl rfl ?_
            refine j_iload (p2 := 45) dT_inputSum_43 rfl rfl ?_
            refine j_callV (m' := mT_in) (As := [_, _]) (p2 := 48) dT_inputSum_45 rfl ml_T_134 ok_mT_in im_mT_in se_mT_in rfl rfl (Nat.le_of_ble_eq_true rfl) ly_21 rfl (Nat.le_of_ble_eq_true rfl) ⟨(Nat.le_of_ble_eq_true rfl), (Nat.le_of_ble_eq_true rfl)⟩ ?_
            refine cTd_in hc0 hm (by omega) hr ?_
            refine j_dadd (p2 := 49) dT_inputSum_48 rfl (nn (by omega)) ?_
            refine j_callV (m' := mT_rounded) (As := [_]) (p2 := 52) dT_inputSum_49 rfl ml_T_74 ok_mT_rounded im_mT_rounded se_mT_rounded rfl rfl (Nat.le_of_ble_eq_true rfl) ly_21 rfl (Nat.le_of_ble_eq_true rfl) ⟨(Nat.le_of_ble_eq_true rfl), (Nat.le_of_ble_eq_true rfl)⟩ ?_
            refine cTd_rounded hfl (nn (by omega)) ?_
            refine j_goto (p2 := 62) dT_inputSum_52 (by decide) ?_
            refine j_dstore_n (p2 := 63) (lv' := [(0, _), (1, _), (2, _), (5, _)]) dT_inputSum_62 rfl (Nat.le_of_ble_eq_true rfl) ⟨rfl, rfl, rfl, rfl, trivial⟩ ?_
            refine j_iconst (p2 := 64) dT_inputSum_63 rfl ?_
            refine j_istore (p2 := 66) (lv' := [(0, _), (1, _), (2, _), (4, _), (5, _)]) dT_inputSum_64 rfl (Nat.le_of_ble_eq_true rfl) ⟨rfl, rfl, rfl, rfl, rfl, trivial⟩ ?_
            refine j_iinc (p2 := 69) (lv' := [(0, _), (1, _), (2, _), (4, _), (5, _)]) dT_inputSum_66 rfl (Nat.le_of_ble_eq_true rfl) rfl ⟨rfl, rfl, rfl, rfl, rfl, trivial⟩ ?_
            refine j_goto (p2 := 8) dT_inputSum_69 (by decide) ?_
            refine J.loc (lv' := [(0, _), (1, _), (2, _), (4, _), (5, _)]) ⟨rfl, rfl, rfl, rfl, rfl, trivial⟩ ?_
            first
              | exact k0 (by omega) h31
              | exact k1 (by omega) h31 h36
              | exact k2 (by omega) h31 h36
  have start := loop 7 0 (by omega) (by omega)
  have e0 : cvD (gsum arD fr (hI σ 10) r m 0).1 = FP.dconst0 := hcD_c 0 (by decide)
  rw [e0] at start
  refine j_dconst0 (p2 := 1) dT_inputSum_0 rfl ?_
  refine j_dstore_n (p2 := 2) (lv' := [(0, _), (1, _), (2, _)]) dT_inputSum_1 rfl (Nat.le_of_ble_eq_true rfl) ⟨rfl, rfl, rfl, trivial⟩ ?_
  refine j_iconst (p2 := 3) dT_inputSum_2 rfl ?_
  refine j_istore (p2 := 5) (lv' := [(0, _), (1, _), (2, _), (4, _)]) dT_inputSum_3 rfl (Nat.le_of_ble_eq_true rfl) ⟨rfl, rfl, rfl, rfl, trivial⟩ ?_
  refine j_iconst (p2 := 6) dT_inputSum_5 rfl ?_
  refine j_istore (p2 := 8) (lv' := [(0, _), (1, _), (2, _), (4, _), (5, _)]) dT_inputSum_6 rfl (Nat.le_of_ble_eq_true rfl) ⟨rfl, rfl, rfl, rfl, rfl, trivial⟩ ?_
  refine J.loc (lv' := [(0, _), (1, _), (2, _), (4, _), (5, _)]) ⟨rfl, rfl, rfl, rfl, rfl, trivial⟩ ?_
  exact start
theorem cTd_after {m : Int} {x : UInt64} {v : UInt64} (hx : vf_n64 x) (he : EqvD v x) (hm : 0 ≤ m ∧ m < 20) (hl : inR (hI σ 20 m)) (hQ : Q (some (vD (cvD (gaft arD x).1))) (wI σ 20 (lmp (hI σ 20) m (hI σ 19 1) (gaft arD x).2))) : Sp mT_after [vR 21, vI m, vD v] σ Q := by
  obtain ⟨e3, e4, e0⟩ := eqv_cmpD hx he
  have e3 : FP.dcmp v 4609434218613702656 = Acm arD x (Ac arD 3) := e3
  have e4 : FP.dcmp v 13832806255468478464 = Acm arD x (Ac arD 4) := e4
  have e0 : FP.dcmp v FP.dconst0 = Acm arD x (Ac arD 0) := e0
  rw [gaft_eD] at hQ
  have hi : FP.dcmp v 4609434218613702656 = some .gt → Q (some (vD 4609434218613702656)) (wI σ 20 (lmp (hI σ 20) m (hI σ 19 1) true)) := fun h => by
    rw [e3] at h
    rw [if_pos (Or.inl h), if_pos (acm_hiD h), hcD_c 3 (by decide)] at hQ; exact hQ
  have lo : FP.dcmp v 13832806255468478464 = some .lt → Q (some (vD 13832806255468478464)) (wI σ 20 (lmp (hI σ 20) m (hI σ 19 1) true)) := fun h => by
    rw [e4] at h
    rw [if_pos (Or.inr h), if_neg (acm_loD h), hcD_c 4 (by decide)] at hQ; exact hQ
  have md : ¬ FP.dcmp v 4609434218613702656 = some .gt → ¬ FP.dcmp v 13832806255468478464 = some .lt → Q (some (vD (if FP.dcmp v FP.dconst0 = some .eq then FP.dconst0 else v))) σ := fun h g => by
    rw [e3] at h
    rw [e4] at g
    rw [if_neg (fun z => z.elim h g), lmp_f, wI_id] at hQ
    rw [e0]
    by_cases z : Acm arD x (Ac arD 0) = some .eq
    · rw [if_pos z] at hQ ⊢
      rw [hcD_c 0 (by decide)] at hQ; exact hQ
    · rw [if_neg z] at hQ ⊢
      rcases he with e | ⟨_, hz⟩
      · rw [e]; exact hQ
      · exact absurd hz z
  refine j_dload_n (p2 := 1) dT_after_0 rfl rfl ?_
  refine j_ldc2d (p2 := 4) dT_after_1 rfl cw_T_153 ?_
  refine j_dcmp_l_le (p1 := 5) (p2 := 8) (tg := 20) dT_after_4 rfl dT_after_5 rfl (by decide) (fun h4 => ?_) (fun h4 => ?_)
  · refine j_dload_n (p2 := 21) dT_after_20 rfl rfl ?_
    refine j_ldc2d (p2 := 24) dT_after_21 rfl cw_T_161 ?_
    refine j_dcmp_g_ge (p1 := 25) (p2 := 28) (tg := 40) dT_after_24 rfl dT_after_25 rfl (by decide) (fun h24 => ?_) (fun h24 => ?_)
    · refine j_dload_n (p2 := 41) dT_after_40 rfl rfl ?_
      refine j_dconst0 (p2 := 42) dT_after_41 rfl ?_
      refine j_dcmp_l_ne (p1 := 43) (p2 := 46) (tg := 50) dT_after_42 rfl dT_after_43 rfl (by decide) (fun h42 => ?_) (fun h42 => ?_)
      · refine j_dload_n (p2 := 51) dT_after_50 rfl rfl ?_
        refine j_dreturn dT_after_51 rfl (by have md2 := md h4 h24; first | (rw [if_pos h42] at md2; exact md2) | (rw [if_neg h42] at md2; exact md2))
      · refine j_dconst0 (p2 := 47) dT_after_46 rfl ?_
        refine j_goto (p2 := 51) dT_after_47 (by decide) ?_
        refine j_dreturn dT_after_51 rfl (by have md2 := md h4 h24; first | (rw [if_pos h42] at md2; exact md2) | (rw [if_neg h42] at md2; exact md2))
    · refine j_aload_n (p2 := 29) dT_after_28 rfl rfl ?_
      refine j_getR (p2 := 32) dT_after_29 rfl fa_T_57 ly_21 rfl ?_
      refine j_iload_n (p2 := 33) dT_after_32 rfl rfl ?_
      refine j_callV (m' := mL_light) (As := [_]) (p2 := 36) dT_after_33 rfl ml_T_155 ok_mL_light im_mL_light se_mL_light rfl rfl (Nat.le_of_ble_eq_true rfl) ly_19 rfl (Nat.le_of_ble_eq_true rfl) ⟨(Nat.le_of_ble_eq_true rfl), (Nat.le_of_ble_eq_true rfl)⟩ ?_
      refine cTd_light hm hl ?_
      refine j_ldc2d (p2 := 39) dT_after_36 rfl cw_T_161 ?_
      refine j_dreturn dT_after_39 rfl (by exact lo h24)
  · refine j_aload_n (p2 := 9) dT_after_8 rfl rfl ?_
    refine j_getR (p2 := 12) dT_after_9 rfl fa_T_57 ly_21 rfl ?_
    refine j_iload_n (p2 := 13) dT_after_12 rfl rfl ?_
    refine j_callV (m' := mL_light) (As := [_]) (p2 := 16) dT_after_13 rfl ml_T_155 ok_mL_light im_mL_light se_mL_light rfl rfl (Nat.le_of_ble_eq_true rfl) ly_19 rfl (Nat.le_of_ble_eq_true rfl) ⟨(Nat.le_of_ble_eq_true rfl), (Nat.le_of_ble_eq_true rfl)⟩ ?_
    refine cTd_light hm hl ?_
    refine j_ldc2d (p2 := 19) dT_after_16 rfl cw_T_153 ?_
    refine j_dreturn dT_after_19 rfl (by exact hi h4)
theorem cTf_inputSum {fr : Int → Int} {r : Int → UInt32} {N : Nat} {m : Int} (hc : CtI σ fr N) (hfl : hI σ 34 3 = 1) (hm : 0 ≤ m ∧ m < N) (hr : ∀ k : Int, 0 ≤ k → k < N → hD σ 35 k = cvF (r k) ∧ BdF (r k)) (hQ : Q (some (vD (cvF (gsum arF fr (hI σ 10) r m 6).1))) σ) : Sp mT_inputSum [vR 34, vI m] σ Q := by
  have hc0 := hc
  obtain ⟨c1, c2, c3, c4⟩ := hc
  have hfn := fun i hi => (gsum_fnF (fr := fr) (tu := hI σ 10) (r := r) (N := N) (m := m) (fun i a b => (c4 m i hm.1 hm.2 a b).2.1) (fun k a b => (hr k a b).2) i hi).2
  have loop : ∀ (n i : Nat), i ≤ 6 → 7 ≤ i + n → J mT_inputSum 8 [(0, vR 34), (1, vI m), (2, vD (cvF (gsum arF fr (hI σ 10) r m i).1)), (4, vI (bI (!(gsum arF fr (hI σ 10) r m i).2))), (5, vI i)] [] σ Q := by
    intro n
    induction n with
    | zero => intro i h1 h2; exact absurd h2 (by omega)
    | succ n ih =>
      intro i h1 h2
      have cb : i < 6 → hI σ 9 (m * 6 + i) = fr (6 * m + i) ∧ (-1 ≤ fr (6 * m + i) ∧ fr (6 * m + i) < N) := fun h => ⟨(c4 m i hm.1 hm.2 (by omega) (by omega)).1, (c4 m i hm.1 hm.2 (by omega) (by omega)).2.1⟩
      have b9 : i < 6 → -1 ≤ hI σ 9 (m * 6 + i) ∧ hI σ 9 (m * 6 + i) < N := fun h => by rw [(cb h).1]; exact (cb h).2
      have hg : i < 6 → BdF (ga arF fr (hI σ 10) r m i) := fun h => ga_bdF (cb h).2 (fun k a b => (hr k a b).2)
      have k0 : i < 6 → hI σ 9 (m * 6 + i) = -1 → J mT_inputSum 8 [(0, vR 34), (1, vI m), (2, vD (cvF (gsum arF fr (hI σ 10) r m i).1)), (4, vI (bI (!(gsum arF fr (hI σ 10) r m i).2))), (5, vI (i + 1))] [] σ Q := fun hi h => by
        have := ih (i + 1) (by omega) (by omega)
        rw [gsum_no (by rw [← (cb hi).1]; exact h)] at this; exact this
      have k1 : i < 6 → ¬ hI σ 9 (m * 6 + i) = -1 → (!(gsum arF fr (hI σ 10) r m i).2) = false → J mT_inputSum 8 [(0, vR 34), (1, vI m), (2, vD (cvF (ga arF fr (hI σ 10) r m i))), (4, vI 1), (5, vI (i + 1))] [] σ Q := fun hi h g => by
        have := ih (i + 1) (by omega) (by omega)
        have h : ¬ fr (6 * m + i) = -1 := by rw [← (cb hi).1]; exact h
        have e : ga arF fr (hI σ 10) r m i = gin arF fr (hI σ 10) r m i := if_neg h
        rw [gsum_1 h (by simpa using g)] at this
        rw [e]; exact this
      have k2 : i < 6 → ¬ hI σ 9 (m * 6 + i) = -1 → (!(gsum arF fr (hI σ 10) r m i).2) = true → J mT_inputSum 8 [(0, vR 34), (1, vI m), (2, vD (rndC true (FP.dadd (cvF (gsum arF fr (hI σ 10) r m i).1) (cvF (ga arF fr (hI σ 10) r m i))))), (4, vI 1), (5, vI (i + 1))] [] σ Q := fun hi h g => by
        have := ih (i + 1) (by omega) (by omega)
        have h : ¬ fr (6 * m + i) = -1 := by rw [← (cb hi).1]; exact h
        have e : ga arF fr (hI σ 10) r m i = gin arF fr (hI σ 10) r m i := if_neg h
        rw [gsum_2 h (by simpa using g)] at this
        rw [hcF_add (hfn i (by omega)) (hg hi).fn, e]; exact this
      have nn : i < 6 → vf_n64 (FP.dadd (cvF (gsum arF fr (hI σ 10) r m i).1) (cvF (ga arF fr (hI σ 10) r m i))) := fun hi => nn_add2 (cvF_fn (hfn i (by omega))) (cvF_fn (hg hi).fn)
      refine j_iload (p2 := 10) dT_inputSum_8 rfl rfl ?_
      refine j_bipush (v := 6) (p2 := 12) dT_inputSum_10 rfl rfl ?_
      refine j_icmp_ge (p2 := 15) (tg := 72) dT_inputSum_12 rfl (by decide) (by constructor <;> omega) (by constructor <;> omega) (fun h12 => ?_) (fun h12 => ?_)
      · refine j_dload_n (p2 := 73) dT_inputSum_72 rfl rfl ?_
        refine j_dreturn dT_inputSum_73 rfl (by have e : i = 6 := (by omega); subst e; exact hQ)
      · refine j_aload_n (p2 := 16) dT_inputSum_15 rfl rfl ?_
        refine j_getR (p2 := 19) dT_inputSum_16 rfl fa_T_49 ly_34 rfl ?_
        refine j_getR (p2 := 22) dT_inputSum_19 rfl fa_T_184 ly_3 rfl ?_
        refine j_iload_n (p2 := 23) dT_inputSum_22 rfl rfl ?_
        refine j_bipush (v := 6) (p2 := 25) dT_inputSum_23 rfl rfl ?_
        refine j_imul (p2 := 26) dT_inputSum_25 rfl ?_
        refine j_iload (p2 := 28) dT_inputSum_26 rfl rfl ?_
        refine j_iadd (p2 := 29) dT_inputSum_28 rfl ?_
        refine j_iald (p2 := 30) dT_inputSum_29 rfl ly_9 (by decide) (by omega) (by omega) ?_
        refine j_iconst (p2 := 31) dT_inputSum_30 rfl ?_
        refine j_icmp_eq (p2 := 34) (tg := 66) dT_inputSum_31 rfl (by decide) (by have := b9 (by omega); constructor <;> omega) (by constructor <;> omega) (fun h31 => ?_) (fun h31 => ?_)
        · refine j_iinc (p2 := 69) (lv' := [(0, _), (1, _), (2, _), (4, _), (5, _)]) dT_inputSum_66 rfl (Nat.le_of_ble_eq_true rfl) rfl ⟨rfl, rfl, rfl, rfl, rfl, trivial⟩ ?_
          refine j_goto (p2 := 8) dT_inputSum_69 (by decide) ?_
          refine J.loc (lv' := [(0, _), (1, _), (2, _), (4, _), (5, _)]) ⟨rfl, rfl, rfl, rfl, rfl, trivial⟩ ?_
          first
            | exact k0 (by omega) h31
            | exact k1 (by omega) h31 h36
            | exact k2 (by omega) h31 h36
        · refine j_iload (p2 := 36) dT_inputSum_34 rfl rfl ?_
          refine j_ifb_eq (p2 := 39) (tg := 55) dT_inputSum_36 rfl (by decide) (fun h36 => ?_) (fun h36 => ?_)
          · refine j_aload_n (p2 := 56) dT_inputSum_55 rfl rfl ?_
            refine j_iload_n (p2 := 57) dT_inputSum_56 rfl rfl ?_
            refine j_iload (p2 := 59) dT_inputSum_57 rfl rfl ?_
            refine j_callV (m' := mT_in) (As := [_, _]) (p2 := 62) dT_inputSum_59 rfl ml_T_134 ok_mT_in im_mT_in se_mT_in rfl rfl (Nat.le_of_ble_eq_true rfl) ly_34 rfl (Nat.le_of_ble_eq_true rfl) ⟨(Nat.le_of_ble_eq_true rfl), (Nat.le_of_ble_eq_true rfl)⟩ ?_
            refine cTf_in hc0 hm (by omega) hr ?_
            refine j_dstore_n (p2 := 63) (lv' := [(0, _), (1, _), (2, _), (5, _)]) dT_inputSum_62 rfl (Nat.le_of_ble_eq_true rfl) ⟨rfl, rfl, rfl, rfl, trivial⟩ ?_
            refine j_iconst (p2 := 64) dT_inputSum_63 rfl ?_
            refine j_istore (p2 := 66) (lv' := [(0, _), (1, _), (2, _), (4, _), (5, _)]) dT_inputSum_64 rfl (Nat.le_of_ble_eq_true rfl) ⟨rfl, rfl, rfl, rfl, rfl, trivial⟩ ?_
            refine j_iinc (p2 := 69) (lv' := [(0, _), (1, _), (2, _), (4, _), (5, _)]) dT_inputSum_66 rfl (Nat.le_of_ble_eq_true rfl) rfl ⟨rfl, rfl, rfl, rfl, rfl, trivial⟩ ?_
            refine j_goto (p2 := 8) dT_inputSum_69 (by decide) ?_
            refine J.loc (lv' := [(0, _), (1, _), (2, _), (4, _), (5, _)]) ⟨rfl, rfl, rfl, rfl, rfl, trivial⟩ ?_
            first
              | exact k0 (by omega) h31
              | exact k1 (by omega) h31 h36
              | exact k2 (by omega) h31 h36
          · refine j_aload_n (p2 := 40) dT_inputSum_39 rfl rfl ?_
            refine j_dload_n (p2 := 41) dT_inputSum_40 rfl rfl ?_
            refine j_aload_n (p2 := 42) dT_inputSum_41 rfl rfl ?_
            refine j_iload_n (p2 := 43) dT_inputSum_42 rfl rfl ?_
            refine j_iload (p2 := 45) dT_inputSum_43 rfl rfl ?_
            refine j_callV (m' := mT_in) (As := [_, _]) (p2 := 48) dT_inputSum_45 rfl ml_T_134 ok_mT_in im_mT_in se_mT_in rfl rfl (Nat.le_of_ble_eq_true rfl) ly_34 rfl (Nat.le_of_ble_eq_true rfl) ⟨(Nat.le_of_ble_eq_true rfl), (Nat.le_of_ble_eq_true rfl)⟩ ?_
            refine cTf_in hc0 hm (by omega) hr ?_
            refine j_dadd (p2 := 49) dT_inputSum_48 rfl (nn (by omega)) ?_
            refine j_callV (m' := mT_rounded) (As := [_]) (p2 := 52) dT_inputSum_49 rfl ml_T_74 ok_mT_rounded im_mT_rounded se_mT_rounded rfl rfl (Nat.le_of_ble_eq_true rfl) ly_34 rfl (Nat.le_of_ble_eq_true rfl) ⟨(Nat.le_of_ble_eq_true rfl), (Nat.le_of_ble_eq_true rfl)⟩ ?_
            refine cTf_rounded hfl (nn (by omega)) ?_
            refine j_goto (p2 := 62) dT_inputSum_52 (by decide) ?_
            refine j_dstore_n (p2 := 63) (lv' := [(0, _), (1, _), (2, _), (5, _)]) dT_inputSum_62 rfl (Nat.le_of_ble_eq_true rfl) ⟨rfl, rfl, rfl, rfl, trivial⟩ ?_
            refine j_iconst (p2 := 64) dT_inputSum_63 rfl ?_
            refine j_istore (p2 := 66) (lv' := [(0, _), (1, _), (2, _), (4, _), (5, _)]) dT_inputSum_64 rfl (Nat.le_of_ble_eq_true rfl) ⟨rfl, rfl, rfl, rfl, rfl, trivial⟩ ?_
            refine j_iinc (p2 := 69) (lv' := [(0, _), (1, _), (2, _), (4, _), (5, _)]) dT_inputSum_66 rfl (Nat.le_of_ble_eq_true rfl) rfl ⟨rfl, rfl, rfl, rfl, rfl, trivial⟩ ?_
            refine j_goto (p2 := 8) dT_inputSum_69 (by decide) ?_
            refine J.loc (lv' := [(0, _), (1, _), (2, _), (4, _), (5, _)]) ⟨rfl, rfl, rfl, rfl, rfl, trivial⟩ ?_
            first
              | exact k0 (by omega) h31
              | exact k1 (by omega) h31 h36
              | exact k2 (by omega) h31 h36
  have start := loop 7 0 (by omega) (by omega)
  have e0 : cvF (gsum arF fr (hI σ 10) r m 0).1 = FP.dconst0 := hcF_c 0 (by decide)
  rw [e0] at start
  refine j_dconst0 (p2 := 1) dT_inputSum_0 rfl ?_
  refine j_dstore_n (p2 := 2) (lv' := [(0, _), (1, _), (2, _)]) dT_inputSum_1 rfl (Nat.le_of_ble_eq_true rfl) ⟨rfl, rfl, rfl, trivial⟩ ?_
  refine j_iconst (p2 := 3) dT_inputSum_2 rfl ?_
  refine j_istore (p2 := 5) (lv' := [(0, _), (1, _), (2, _), (4, _)]) dT_inputSum_3 rfl (Nat.le_of_ble_eq_true rfl) ⟨rfl, rfl, rfl, rfl, trivial⟩ ?_
  refine j_iconst (p2 := 6) dT_inputSum_5 rfl ?_
  refine j_istore (p2 := 8) (lv' := [(0, _), (1, _), (2, _), (4, _), (5, _)]) dT_inputSum_6 rfl (Nat.le_of_ble_eq_true rfl) ⟨rfl, rfl, rfl, rfl, rfl, trivial⟩ ?_
  refine J.loc (lv' := [(0, _), (1, _), (2, _), (4, _), (5, _)]) ⟨rfl, rfl, rfl, rfl, rfl, trivial⟩ ?_
  exact start
theorem cTf_after {m : Int} {x : UInt32} {v : UInt64} (hx : vf_n32 x) (he : EqvF v x) (hm : 0 ≤ m ∧ m < 20) (hl : inR (hI σ 20 m)) (hQ : Q (some (vD (cvF (gaft arF x).1))) (wI σ 20 (lmp (hI σ 20) m (hI σ 19 1) (gaft arF x).2))) : Sp mT_after [vR 34, vI m, vD v] σ Q := by
  obtain ⟨e3, e4, e0⟩ := eqv_cmpF hx he
  have e3 : FP.dcmp v 4609434218613702656 = Acm arF x (Ac arF 3) := e3
  have e4 : FP.dcmp v 13832806255468478464 = Acm arF x (Ac arF 4) := e4
  have e0 : FP.dcmp v FP.dconst0 = Acm arF x (Ac arF 0) := e0
  rw [gaft_eF] at hQ
  have hi : FP.dcmp v 4609434218613702656 = some .gt → Q (some (vD 4609434218613702656)) (wI σ 20 (lmp (hI σ 20) m (hI σ 19 1) true)) := fun h => by
    rw [e3] at h
    rw [if_pos (Or.inl h), if_pos (acm_hiF h), hcF_c 3 (by decide)] at hQ; exact hQ
  have lo : FP.dcmp v 13832806255468478464 = some .lt → Q (some (vD 13832806255468478464)) (wI σ 20 (lmp (hI σ 20) m (hI σ 19 1) true)) := fun h => by
    rw [e4] at h
    rw [if_pos (Or.inr h), if_neg (acm_loF h), hcF_c 4 (by decide)] at hQ; exact hQ
  have md : ¬ FP.dcmp v 4609434218613702656 = some .gt → ¬ FP.dcmp v 13832806255468478464 = some .lt → Q (some (vD (if FP.dcmp v FP.dconst0 = some .eq then FP.dconst0 else v))) σ := fun h g => by
    rw [e3] at h
    rw [e4] at g
    rw [if_neg (fun z => z.elim h g), lmp_f, wI_id] at hQ
    rw [e0]
    by_cases z : Acm arF x (Ac arF 0) = some .eq
    · rw [if_pos z] at hQ ⊢
      rw [hcF_c 0 (by decide)] at hQ; exact hQ
    · rw [if_neg z] at hQ ⊢
      rcases he with e | ⟨_, hz⟩
      · rw [e]; exact hQ
      · exact absurd hz z
  refine j_dload_n (p2 := 1) dT_after_0 rfl rfl ?_
  refine j_ldc2d (p2 := 4) dT_after_1 rfl cw_T_153 ?_
  refine j_dcmp_l_le (p1 := 5) (p2 := 8) (tg := 20) dT_after_4 rfl dT_after_5 rfl (by decide) (fun h4 => ?_) (fun h4 => ?_)
  · refine j_dload_n (p2 := 21) dT_after_20 rfl rfl ?_
    refine j_ldc2d (p2 := 24) dT_after_21 rfl cw_T_161 ?_
    refine j_dcmp_g_ge (p1 := 25) (p2 := 28) (tg := 40) dT_after_24 rfl dT_after_25 rfl (by decide) (fun h24 => ?_) (fun h24 => ?_)
    · refine j_dload_n (p2 := 41) dT_after_40 rfl rfl ?_
      refine j_dconst0 (p2 := 42) dT_after_41 rfl ?_
      refine j_dcmp_l_ne (p1 := 43) (p2 := 46) (tg := 50) dT_after_42 rfl dT_after_43 rfl (by decide) (fun h42 => ?_) (fun h42 => ?_)
      · refine j_dload_n (p2 := 51) dT_after_50 rfl rfl ?_
        refine j_dreturn dT_after_51 rfl (by have md2 := md h4 h24; first | (rw [if_pos h42] at md2; exact md2) | (rw [if_neg h42] at md2; exact md2))
      · refine j_dconst0 (p2 := 47) dT_after_46 rfl ?_
        refine j_goto (p2 := 51) dT_after_47 (by decide) ?_
        refine j_dreturn dT_after_51 rfl (by have md2 := md h4 h24; first | (rw [if_pos h42] at md2; exact md2) | (rw [if_neg h42] at md2; exact md2))
    · refine j_aload_n (p2 := 29) dT_after_28 rfl rfl ?_
      refine j_getR (p2 := 32) dT_after_29 rfl fa_T_57 ly_34 rfl ?_
      refine j_iload_n (p2 := 33) dT_after_32 rfl rfl ?_
      refine j_callV (m' := mL_light) (As := [_]) (p2 := 36) dT_after_33 rfl ml_T_155 ok_mL_light im_mL_light se_mL_light rfl rfl (Nat.le_of_ble_eq_true rfl) ly_19 rfl (Nat.le_of_ble_eq_true rfl) ⟨(Nat.le_of_ble_eq_true rfl), (Nat.le_of_ble_eq_true rfl)⟩ ?_
      refine cTf_light hm hl ?_
      refine j_ldc2d (p2 := 39) dT_after_36 rfl cw_T_161 ?_
      refine j_dreturn dT_after_39 rfl (by exact lo h24)
  · refine j_aload_n (p2 := 9) dT_after_8 rfl rfl ?_
    refine j_getR (p2 := 12) dT_after_9 rfl fa_T_57 ly_34 rfl ?_
    refine j_iload_n (p2 := 13) dT_after_12 rfl rfl ?_
    refine j_callV (m' := mL_light) (As := [_]) (p2 := 16) dT_after_13 rfl ml_T_155 ok_mL_light im_mL_light se_mL_light rfl rfl (Nat.le_of_ble_eq_true rfl) ly_19 rfl (Nat.le_of_ble_eq_true rfl) ⟨(Nat.le_of_ble_eq_true rfl), (Nat.le_of_ble_eq_true rfl)⟩ ?_
    refine cTf_light hm hl ?_
    refine j_ldc2d (p2 := 19) dT_after_16 rfl cw_T_153 ?_
    refine j_dreturn dT_after_19 rfl (by exact hi h4)
theorem cTt_inputSum {fr : Int → Int} {r : Int → UInt64} {N : Nat} {m : Int} (hc : CtI σ fr N) (hfl : hI σ 56 3 = 0) (hm : 0 ≤ m ∧ m < N) (hr : ∀ k : Int, 0 ≤ k → k < N → hD σ 57 k = cvD (r k) ∧ BdD (r k)) (hQ : Q (some (vD (cvD (gsum arD fr (hI σ 10) r m 6).1))) σ) : Sp mT_inputSum [vR 56, vI m] σ Q := by
  have hc0 := hc
  obtain ⟨c1, c2, c3, c4⟩ := hc
  have hfn := fun i hi => (gsum_fnD (fr := fr) (tu := hI σ 10) (r := r) (N := N) (m := m) (fun i a b => (c4 m i hm.1 hm.2 a b).2.1) (fun k a b => (hr k a b).2) i hi).2
  have loop : ∀ (n i : Nat), i ≤ 6 → 7 ≤ i + n → J mT_inputSum 8 [(0, vR 56), (1, vI m), (2, vD (cvD (gsum arD fr (hI σ 10) r m i).1)), (4, vI (bI (!(gsum arD fr (hI σ 10) r m i).2))), (5, vI i)] [] σ Q := by
    intro n
    induction n with
    | zero => intro i h1 h2; exact absurd h2 (by omega)
    | succ n ih =>
      intro i h1 h2
      have cb : i < 6 → hI σ 9 (m * 6 + i) = fr (6 * m + i) ∧ (-1 ≤ fr (6 * m + i) ∧ fr (6 * m + i) < N) := fun h => ⟨(c4 m i hm.1 hm.2 (by omega) (by omega)).1, (c4 m i hm.1 hm.2 (by omega) (by omega)).2.1⟩
      have b9 : i < 6 → -1 ≤ hI σ 9 (m * 6 + i) ∧ hI σ 9 (m * 6 + i) < N := fun h => by rw [(cb h).1]; exact (cb h).2
      have hg : i < 6 → BdD (ga arD fr (hI σ 10) r m i) := fun h => ga_bdD (cb h).2 (fun k a b => (hr k a b).2)
      have k0 : i < 6 → hI σ 9 (m * 6 + i) = -1 → J mT_inputSum 8 [(0, vR 56), (1, vI m), (2, vD (cvD (gsum arD fr (hI σ 10) r m i).1)), (4, vI (bI (!(gsum arD fr (hI σ 10) r m i).2))), (5, vI (i + 1))] [] σ Q := fun hi h => by
        have := ih (i + 1) (by omega) (by omega)
        rw [gsum_no (by rw [← (cb hi).1]; exact h)] at this; exact this
      have k1 : i < 6 → ¬ hI σ 9 (m * 6 + i) = -1 → (!(gsum arD fr (hI σ 10) r m i).2) = false → J mT_inputSum 8 [(0, vR 56), (1, vI m), (2, vD (cvD (ga arD fr (hI σ 10) r m i))), (4, vI 1), (5, vI (i + 1))] [] σ Q := fun hi h g => by
        have := ih (i + 1) (by omega) (by omega)
        have h : ¬ fr (6 * m + i) = -1 := by rw [← (cb hi).1]; exact h
        have e : ga arD fr (hI σ 10) r m i = gin arD fr (hI σ 10) r m i := if_neg h
        rw [gsum_1 h (by simpa using g)] at this
        rw [e]; exact this
      have k2 : i < 6 → ¬ hI σ 9 (m * 6 + i) = -1 → (!(gsum arD fr (hI σ 10) r m i).2) = true → J mT_inputSum 8 [(0, vR 56), (1, vI m), (2, vD (rndC false (FP.dadd (cvD (gsum arD fr (hI σ 10) r m i).1) (cvD (ga arD fr (hI σ 10) r m i))))), (4, vI 1), (5, vI (i + 1))] [] σ Q := fun hi h g => by
        have := ih (i + 1) (by omega) (by omega)
        have h : ¬ fr (6 * m + i) = -1 := by rw [← (cb hi).1]; exact h
        have e : ga arD fr (hI σ 10) r m i = gin arD fr (hI σ 10) r m i := if_neg h
        rw [gsum_2 h (by simpa using g)] at this
        rw [hcD_add (hfn i (by omega)) (hg hi).fn, e]; exact this
      have nn : i < 6 → vf_n64 (FP.dadd (cvD (gsum arD fr (hI σ 10) r m i).1) (cvD (ga arD fr (hI σ 10) r m i))) := fun hi => nn_add2 (cvD_fn (hfn i (by omega))) (cvD_fn (hg hi).fn)
      refine j_iload (p2 := 10) dT_inputSum_8 rfl rfl ?_
      refine j_bipush (v := 6) (p2 := 12) dT_inputSum_10 rfl rfl ?_
      refine j_icmp_ge (p2 := 15) (tg := 72) dT_inputSum_12 rfl (by decide) (by constructor <;> omega) (by constructor <;> omega) (fun h12 => ?_) (fun h12 => ?_)
      · refine j_dload_n (p2 := 73) dT_inputSum_72 rfl rfl ?_
        refine j_dreturn dT_inputSum_73 rfl (by have e : i = 6 := (by omega); subst e; exact hQ)
      · refine j_aload_n (p2 := 16) dT_inputSum_15 rfl rfl ?_
        refine j_getR (p2 := 19) dT_inputSum_16 rfl fa_T_49 ly_56 rfl ?_
        refine j_getR (p2 := 22) dT_inputSum_19 rfl fa_T_184 ly_3 rfl ?_
        refine j_iload_n (p2 := 23) dT_inputSum_22 rfl rfl ?_
        refine j_bipush (v := 6) (p2 := 25) dT_inputSum_23 rfl rfl ?_
        refine j_imul (p2 := 26) dT_inputSum_25 rfl ?_
        refine j_iload (p2 := 28) dT_inputSum_26 rfl rfl ?_
        refine j_iadd (p2 := 29) dT_inputSum_28 rfl ?_
        refine j_iald (p2 := 30) dT_inputSum_29 rfl ly_9 (by decide) (by omega) (by omega) ?_
        refine j_iconst (p2 := 31) dT_inputSum_30 rfl ?_
        refine j_icmp_eq (p2 := 34) (tg := 66) dT_inputSum_31 rfl (by decide) (by have := b9 (by omega); constructor <;> omega) (by constructor <;> omega) (fun h31 => ?_) (fun h31 => ?_)
        · refine j_iinc (p2 := 69) (lv' := [(0, _), (1, _), (2, _), (4, _), (5, _)]) dT_inputSum_66 rfl (Nat.le_of_ble_eq_true rfl) rfl ⟨rfl, rfl, rfl, rfl, rfl, trivial⟩ ?_
          refine j_goto (p2 := 8) dT_inputSum_69 (by decide) ?_
          refine J.loc (lv' := [(0, _), (1, _), (2, _), (4, _), (5, _)]) ⟨rfl, rfl, rfl, rfl, rfl, trivial⟩ ?_
          first
            | exact k0 (by omega) h31
            | exact k1 (by omega) h31 h36
            | exact k2 (by omega) h31 h36
        · refine j_iload (p2 := 36) dT_inputSum_34 rfl rfl ?_
          refine j_ifb_eq (p2 := 39) (tg := 55) dT_inputSum_36 rfl (by decide) (fun h36 => ?_) (fun h36 => ?_)
          · refine j_aload_n (p2 := 56) dT_inputSum_55 rfl rfl ?_
            refine j_iload_n (p2 := 57) dT_inputSum_56 rfl rfl ?_
            refine j_iload (p2 := 59) dT_inputSum_57 rfl rfl ?_
            refine j_callV (m' := mT_in) (As := [_, _]) (p2 := 62) dT_inputSum_59 rfl ml_T_134 ok_mT_in im_mT_in se_mT_in rfl rfl (Nat.le_of_ble_eq_true rfl) ly_56 rfl (Nat.le_of_ble_eq_true rfl) ⟨(Nat.le_of_ble_eq_true rfl), (Nat.le_of_ble_eq_true rfl)⟩ ?_
            refine cTt_in hc0 hm (by omega) hr ?_
            refine j_dstore_n (p2 := 63) (lv' := [(0, _), (1, _), (2, _), (5, _)]) dT_inputSum_62 rfl (Nat.le_of_ble_eq_true rfl) ⟨rfl, rfl, rfl, rfl, trivial⟩ ?_
            refine j_iconst (p2 := 64) dT_inputSum_63 rfl ?_
            refine j_istore (p2 := 66) (lv' := [(0, _), (1, _), (2, _), (4, _), (5, _)]) dT_inputSum_64 rfl (Nat.le_of_ble_eq_true rfl) ⟨rfl, rfl, rfl, rfl, rfl, trivial⟩ ?_
            refine j_iinc (p2 := 69) (lv' := [(0, _), (1, _), (2, _), (4, _), (5, _)]) dT_inputSum_66 rfl (Nat.le_of_ble_eq_true rfl) rfl ⟨rfl, rfl, rfl, rfl, rfl, trivial⟩ ?_
            refine j_goto (p2 := 8) dT_inputSum_69 (by decide) ?_
            refine J.loc (lv' := [(0, _), (1, _), (2, _), (4, _), (5, _)]) ⟨rfl, rfl, rfl, rfl, rfl, trivial⟩ ?_
            first
              | exact k0 (by omega) h31
              | exact k1 (by omega) h31 h36
              | exact k2 (by omega) h31 h36
          · refine j_aload_n (p2 := 40) dT_inputSum_39 rfl rfl ?_
            refine j_dload_n (p2 := 41) dT_inputSum_40 rfl rfl ?_
            refine j_aload_n (p2 := 42) dT_inputSum_41 rfl rfl ?_
            refine j_iload_n (p2 := 43) dT_inputSum_42 rfl rfl ?_
            refine j_iload (p2 := 45) dT_inputSum_43 rfl rfl ?_
            refine j_callV (m' := mT_in) (As := [_, _]) (p2 := 48) dT_inputSum_45 rfl ml_T_134 ok_mT_in im_mT_in se_mT_in rfl rfl (Nat.le_of_ble_eq_true rfl) ly_56 rfl (Nat.le_of_ble_eq_true rfl) ⟨(Nat.le_of_ble_eq_true rfl), (Nat.le_of_ble_eq_true rfl)⟩ ?_
            refine cTt_in hc0 hm (by omega) hr ?_
            refine j_dadd (p2 := 49) dT_inputSum_48 rfl (nn (by omega)) ?_
            refine j_callV (m' := mT_rounded) (As := [_]) (p2 := 52) dT_inputSum_49 rfl ml_T_74 ok_mT_rounded im_mT_rounded se_mT_rounded rfl rfl (Nat.le_of_ble_eq_true rfl) ly_56 rfl (Nat.le_of_ble_eq_true rfl) ⟨(Nat.le_of_ble_eq_true rfl), (Nat.le_of_ble_eq_true rfl)⟩ ?_
            refine cTt_rounded hfl (nn (by omega)) ?_
            refine j_goto (p2 := 62) dT_inputSum_52 (by decide) ?_
            refine j_dstore_n (p2 := 63) (lv' := [(0, _), (1, _), (2, _), (5, _)]) dT_inputSum_62 rfl (Nat.le_of_ble_eq_true rfl) ⟨rfl, rfl, rfl, rfl, trivial⟩ ?_
            refine j_iconst (p2 := 64) dT_inputSum_63 rfl ?_
            refine j_istore (p2 := 66) (lv' := [(0, _), (1, _), (2, _), (4, _), (5, _)]) dT_inputSum_64 rfl (Nat.le_of_ble_eq_true rfl) ⟨rfl, rfl, rfl, rfl, rfl, trivial⟩ ?_
            refine j_iinc (p2 := 69) (lv' := [(0, _), (1, _), (2, _), (4, _), (5, _)]) dT_inputSum_66 rfl (Nat.le_of_ble_eq_true rfl) rfl ⟨rfl, rfl, rfl, rfl, rfl, trivial⟩ ?_
            refine j_goto (p2 := 8) dT_inputSum_69 (by decide) ?_
            refine J.loc (lv' := [(0, _), (1, _), (2, _), (4, _), (5, _)]) ⟨rfl, rfl, rfl, rfl, rfl, trivial⟩ ?_
            first
              | exact k0 (by omega) h31
              | exact k1 (by omega) h31 h36
              | exact k2 (by omega) h31 h36
  have start := loop 7 0 (by omega) (by omega)
  have e0 : cvD (gsum arD fr (hI σ 10) r m 0).1 = FP.dconst0 := hcD_c 0 (by decide)
  rw [e0] at start
  refine j_dconst0 (p2 := 1) dT_inputSum_0 rfl ?_
  refine j_dstore_n (p2 := 2) (lv' := [(0, _), (1, _), (2, _)]) dT_inputSum_1 rfl (Nat.le_of_ble_eq_true rfl) ⟨rfl, rfl, rfl, trivial⟩ ?_
  refine j_iconst (p2 := 3) dT_inputSum_2 rfl ?_
  refine j_istore (p2 := 5) (lv' := [(0, _), (1, _), (2, _), (4, _)]) dT_inputSum_3 rfl (Nat.le_of_ble_eq_true rfl) ⟨rfl, rfl, rfl, rfl, trivial⟩ ?_
  refine j_iconst (p2 := 6) dT_inputSum_5 rfl ?_
  refine j_istore (p2 := 8) (lv' := [(0, _), (1, _), (2, _), (4, _), (5, _)]) dT_inputSum_6 rfl (Nat.le_of_ble_eq_true rfl) ⟨rfl, rfl, rfl, rfl, rfl, trivial⟩ ?_
  refine J.loc (lv' := [(0, _), (1, _), (2, _), (4, _), (5, _)]) ⟨rfl, rfl, rfl, rfl, rfl, trivial⟩ ?_
  exact start
theorem cTt_after {m : Int} {x : UInt64} {v : UInt64} (hx : vf_n64 x) (he : EqvD v x) (hm : 0 ≤ m ∧ m < 20) (hl : inR (hI σ 55 m)) (hQ : Q (some (vD (cvD (gaft arD x).1))) (wI σ 55 (lmp (hI σ 55) m (hI σ 54 1) (gaft arD x).2))) : Sp mT_after [vR 56, vI m, vD v] σ Q := by
  obtain ⟨e3, e4, e0⟩ := eqv_cmpD hx he
  have e3 : FP.dcmp v 4609434218613702656 = Acm arD x (Ac arD 3) := e3
  have e4 : FP.dcmp v 13832806255468478464 = Acm arD x (Ac arD 4) := e4
  have e0 : FP.dcmp v FP.dconst0 = Acm arD x (Ac arD 0) := e0
  rw [gaft_eD] at hQ
  have hi : FP.dcmp v 4609434218613702656 = some .gt → Q (some (vD 4609434218613702656)) (wI σ 55 (lmp (hI σ 55) m (hI σ 54 1) true)) := fun h => by
    rw [e3] at h
    rw [if_pos (Or.inl h), if_pos (acm_hiD h), hcD_c 3 (by decide)] at hQ; exact hQ
  have lo : FP.dcmp v 13832806255468478464 = some .lt → Q (some (vD 13832806255468478464)) (wI σ 55 (lmp (hI σ 55) m (hI σ 54 1) true)) := fun h => by
    rw [e4] at h
    rw [if_pos (Or.inr h), if_neg (acm_loD h), hcD_c 4 (by decide)] at hQ; exact hQ
  have md : ¬ FP.dcmp v 4609434218613702656 = some .gt → ¬ FP.dcmp v 13832806255468478464 = some .lt → Q (some (vD (if FP.dcmp v FP.dconst0 = some .eq then FP.dconst0 else v))) σ := fun h g => by
    rw [e3] at h
    rw [e4] at g
    rw [if_neg (fun z => z.elim h g), lmp_f, wI_id] at hQ
    rw [e0]
    by_cases z : Acm arD x (Ac arD 0) = some .eq
    · rw [if_pos z] at hQ ⊢
      rw [hcD_c 0 (by decide)] at hQ; exact hQ
    · rw [if_neg z] at hQ ⊢
      rcases he with e | ⟨_, hz⟩
      · rw [e]; exact hQ
      · exact absurd hz z
  refine j_dload_n (p2 := 1) dT_after_0 rfl rfl ?_
  refine j_ldc2d (p2 := 4) dT_after_1 rfl cw_T_153 ?_
  refine j_dcmp_l_le (p1 := 5) (p2 := 8) (tg := 20) dT_after_4 rfl dT_after_5 rfl (by decide) (fun h4 => ?_) (fun h4 => ?_)
  · refine j_dload_n (p2 := 21) dT_after_20 rfl rfl ?_
    refine j_ldc2d (p2 := 24) dT_after_21 rfl cw_T_161 ?_
    refine j_dcmp_g_ge (p1 := 25) (p2 := 28) (tg := 40) dT_after_24 rfl dT_after_25 rfl (by decide) (fun h24 => ?_) (fun h24 => ?_)
    · refine j_dload_n (p2 := 41) dT_after_40 rfl rfl ?_
      refine j_dconst0 (p2 := 42) dT_after_41 rfl ?_
      refine j_dcmp_l_ne (p1 := 43) (p2 := 46) (tg := 50) dT_after_42 rfl dT_after_43 rfl (by decide) (fun h42 => ?_) (fun h42 => ?_)
      · refine j_dload_n (p2 := 51) dT_after_50 rfl rfl ?_
        refine j_dreturn dT_after_51 rfl (by have md2 := md h4 h24; first | (rw [if_pos h42] at md2; exact md2) | (rw [if_neg h42] at md2; exact md2))
      · refine j_dconst0 (p2 := 47) dT_after_46 rfl ?_
        refine j_goto (p2 := 51) dT_after_47 (by decide) ?_
        refine j_dreturn dT_after_51 rfl (by have md2 := md h4 h24; first | (rw [if_pos h42] at md2; exact md2) | (rw [if_neg h42] at md2; exact md2))
    · refine j_aload_n (p2 := 29) dT_after_28 rfl rfl ?_
      refine j_getR (p2 := 32) dT_after_29 rfl fa_T_57 ly_56 rfl ?_
      refine j_iload_n (p2 := 33) dT_after_32 rfl rfl ?_
      refine j_callV (m' := mL_light) (As := [_]) (p2 := 36) dT_after_33 rfl ml_T_155 ok_mL_light im_mL_light se_mL_light rfl rfl (Nat.le_of_ble_eq_true rfl) ly_54 rfl (Nat.le_of_ble_eq_true rfl) ⟨(Nat.le_of_ble_eq_true rfl), (Nat.le_of_ble_eq_true rfl)⟩ ?_
      refine cTt_light hm hl ?_
      refine j_ldc2d (p2 := 39) dT_after_36 rfl cw_T_161 ?_
      refine j_dreturn dT_after_39 rfl (by exact lo h24)
  · refine j_aload_n (p2 := 9) dT_after_8 rfl rfl ?_
    refine j_getR (p2 := 12) dT_after_9 rfl fa_T_57 ly_56 rfl ?_
    refine j_iload_n (p2 := 13) dT_after_12 rfl rfl ?_
    refine j_callV (m' := mL_light) (As := [_]) (p2 := 16) dT_after_13 rfl ml_T_155 ok_mL_light im_mL_light se_mL_light rfl rfl (Nat.le_of_ble_eq_true rfl) ly_54 rfl (Nat.le_of_ble_eq_true rfl) ⟨(Nat.le_of_ble_eq_true rfl), (Nat.le_of_ble_eq_true rfl)⟩ ?_
    refine cTt_light hm hl ?_
    refine j_ldc2d (p2 := 19) dT_after_16 rfl cw_T_153 ?_
    refine j_dreturn dT_after_19 rfl (by exact hi h4)
end TWC1
