/-! ===== the reference: lamps, AFTER, inputs, sums ===== -/
def sqM (c : Nat) (q : Int) : Nat × Int :=
  if (q + (c.log2 : Int) - 52) % 2 = 0 then (c * 2 ^ (52 - (c.log2 : Int)).toNat, q + (c.log2 : Int) - 52) else (2 * (c * 2 ^ (52 - (c.log2 : Int)).toNat), q + (c.log2 : Int) - 53)
/-- the square root of a number above 0 -/
def rootP (x : UInt64) : UInt64 := match FP.Core.val64 x with
  | .fin _ c q => FP.Core.of64 (FP.Core.round FP.Core.b64 (.fin false ((FP.Core.sqrtFloor ((sqM c q).1 * 2 ^ 54) + 1) / 2) ((sqM c q).2 / 2 - 26)))
  | _ => x
def rootD (x : UInt64) : UInt64 := if FP.dcmp x FP.dconst0 = some .eq then x else rootP x
def csD (k : Nat) : UInt64 := match k with
  | 0 => FP.dconst0 | 1 => FP.dconst1 | 2 => 13830554455654793216 | 3 => 4609434218613702656 | 4 => 13832806255468478464 | 5 => 4611686018427387904 | _ => 4618441417868443648
def csF (k : Nat) : UInt32 := match k with
  | 0 => FP.fconst0 | 1 => FP.fconst1 | 2 => 3212836864 | 3 => 1069547520 | 4 => 3217031168 | 5 => FP.fconst2 | _ => 1086324736
def arD : Ar UInt64 := (FP.dadd, FP.dsub, FP.dmul, FP.ddiv, FP.dneg, rootD, FP.dcmp, csD)
def arF : Ar UInt32 := (FP.fadd, FP.fsub, FP.fmul, FP.fdiv, FP.fneg, fun x => FP.d2f (rootD (FP.f2d x)), FP.fcmp, csF)
def lmp (f : Int → Int) (m t : Int) (b : Bool) : Int → Int := if b = true ∧ f m = -1 then fup f m t else f
theorem lmp_f (f : Int → Int) (m t : Int) : lmp f m t false = f := by unfold lmp; rw [if_neg (fun q => by cases q.1)]
section REF2
variable {σ : Hp} {Q : Option PV → Hp → Prop}
theorem cM_light {m : Int} (hm : 0 ≤ m ∧ m < 20) (hl : inR (hI σ 87 m)) (hQ : Q none (wI σ 87 (lmp (hI σ 87) m (hI σ 69 44) true))) : Sp mM_light [vR 69, vI m] σ Q := by
  refine j_aload_n (p2 := 1) dM_light_0 rfl rfl ?_
  refine j_getR (p2 := 4) dM_light_1 rfl fa_M_68 ly_69 rfl ?_
  refine j_iload_n (p2 := 5) dM_light_4 rfl rfl ?_
  refine j_iald (p2 := 6) dM_light_5 rfl ly_87 (by decide) (by omega) (by omega) ?_
  refine j_iconst (p2 := 7) dM_light_6 rfl ?_
  refine j_icmp_ne (p2 := 10) (tg := 20) dM_light_7 rfl (by decide) (by constructor <;> omega) (by constructor <;> omega) (fun h7 => ?_) (fun h7 => ?_)
  · refine j_return dM_light_20 rfl (by first | (rw [lmp, if_neg (by omega), wI_id] at hQ; exact hQ) | (rw [lmp, if_pos ⟨rfl, by omega⟩] at hQ; exact hQ))
  · refine j_aload_n (p2 := 11) dM_light_10 rfl rfl ?_
    refine j_getR (p2 := 14) dM_light_11 rfl fa_M_68 ly_69 rfl ?_
    refine j_iload_n (p2 := 15) dM_light_14 rfl rfl ?_
    refine j_aload_n (p2 := 16) dM_light_15 rfl rfl ?_
    refine j_getIk (p2 := 19) dM_light_16 rfl fa_M_233 ly_69 rfl (ki := 44) rfl ?_
    refine j_iastk (p2 := 20) dM_light_19 rfl ly_87 (by decide) (by omega) (by omega) ?_
    refine j_return dM_light_20 rfl (by first | (rw [lmp, if_neg (by omega), wI_id] at hQ; exact hQ) | (rw [lmp, if_pos ⟨rfl, by omega⟩] at hQ; exact hQ))
theorem cM_after {m : Int} {v : UInt64} (hm : 0 ≤ m ∧ m < 20) (hl : inR (hI σ 87 m)) (hQ : Q (some (vD (gaft arD v).1)) (wI σ 87 (lmp (hI σ 87) m (hI σ 69 44) (gaft arD v).2))) : Sp mM_after [vR 69, vI m, vD v] σ Q := by
  have hg : gaft arD v = if FP.dcmp v 4609434218613702656 = some .gt ∨ FP.dcmp v 13832806255468478464 = some .lt then (if FP.dcmp v FP.dconst0 = some .gt then 4609434218613702656 else 13832806255468478464, true) else (if FP.dcmp v FP.dconst0 = some .eq then FP.dconst0 else v, false) := rfl
  rw [hg] at hQ
  have lit : (FP.dcmp v 4609434218613702656 = some .gt ∨ FP.dcmp v 13832806255468478464 = some .lt) → J mM_after 16 [(0, vR 69), (1, vI m), (2, vD v)] [] σ Q := by
    intro h
    rw [if_pos h] at hQ
    refine j_aload_n (p2 := 17) dM_after_16 rfl rfl ?_
    refine j_iload_n (p2 := 18) dM_after_17 rfl rfl ?_
    refine j_callV (m' := mM_light) (As := [_]) (p2 := 21) dM_after_18 rfl ml_M_236 ok_mM_light im_mM_light se_mM_light rfl rfl (Nat.le_of_ble_eq_true rfl) ly_69 rfl (Nat.le_of_ble_eq_true rfl) ⟨(Nat.le_of_ble_eq_true rfl), (Nat.le_of_ble_eq_true rfl)⟩ ?_
    refine cM_light hm hl ?_
    refine j_dload_n (p2 := 22) dM_after_21 rfl rfl ?_
    refine j_dconst0 (p2 := 23) dM_after_22 rfl ?_
    refine j_dcmp_l_le (p1 := 24) (p2 := 27) (tg := 33) dM_after_23 rfl dM_after_24 rfl (by decide) (fun h23 => ?_) (fun h23 => ?_)
    · refine j_ldc2d (p2 := 36) dM_after_33 rfl cw_M_202 ?_
      refine j_dreturn dM_after_36 rfl (by simp_all only [if_true, if_false])
    · refine j_ldc2d (p2 := 30) dM_after_27 rfl cw_M_177 ?_
      refine j_goto (p2 := 36) dM_after_30 (by decide) ?_
      refine j_dreturn dM_after_36 rfl (by simp_all only [if_true, if_false])
  refine j_dload_n (p2 := 1) dM_after_0 rfl rfl ?_
  refine j_ldc2d (p2 := 4) dM_after_1 rfl cw_M_177 ?_
  refine j_dcmp_l_gt (p1 := 5) (p2 := 8) (tg := 16) dM_after_4 rfl dM_after_5 rfl (by decide) (fun h4 => ?_) (fun h4 => ?_)
  · refine J.loc (lv' := [(0, _), (1, _), (2, _)]) ⟨rfl, rfl, rfl, trivial⟩ ?_
    exact lit (by simp only [*, true_or, or_true])
  · refine j_dload_n (p2 := 9) dM_after_8 rfl rfl ?_
    refine j_ldc2d (p2 := 12) dM_after_9 rfl cw_M_202 ?_
    refine j_dcmp_g_ge (p1 := 13) (p2 := 16) (tg := 37) dM_after_12 rfl dM_after_13 rfl (by decide) (fun h12 => ?_) (fun h12 => ?_)
    · refine j_dload_n (p2 := 38) dM_after_37 rfl rfl ?_
      refine j_dconst0 (p2 := 39) dM_after_38 rfl ?_
      refine j_dcmp_l_ne (p1 := 40) (p2 := 43) (tg := 47) dM_after_39 rfl dM_after_40 rfl (by decide) (fun h39 => ?_) (fun h39 => ?_)
      · refine j_dload_n (p2 := 48) dM_after_47 rfl rfl ?_
        refine j_dreturn dM_after_48 rfl (by rw [if_neg (by simp only [h4, h12, or_self, not_false_eq_true]), lmp_f, wI_id] at hQ; first | (rw [if_neg h39] at hQ; exact hQ) | (rw [if_pos h39] at hQ; exact hQ))
      · refine j_dconst0 (p2 := 44) dM_after_43 rfl ?_
        refine j_goto (p2 := 48) dM_after_44 (by decide) ?_
        refine j_dreturn dM_after_48 rfl (by rw [if_neg (by simp only [h4, h12, or_self, not_false_eq_true]), lmp_f, wI_id] at hQ; first | (rw [if_neg h39] at hQ; exact hQ) | (rw [if_pos h39] at hQ; exact hQ))
    · refine J.loc (lv' := [(0, _), (1, _), (2, _)]) ⟨rfl, rfl, rfl, trivial⟩ ?_
      exact lit (by simp only [*, true_or, or_true])
theorem cM_afterF {m : Int} {v : UInt32} (hm : 0 ≤ m ∧ m < 20) (hl : inR (hI σ 87 m)) (hQ : Q (some (vF (gaft arF v).1)) (wI σ 87 (lmp (hI σ 87) m (hI σ 69 44) (gaft arF v).2))) : Sp mM_afterF [vR 69, vI m, vF v] σ Q := by
  have hg : gaft arF v = if FP.fcmp v 1069547520 = some .gt ∨ FP.fcmp v 3217031168 = some .lt then (if FP.fcmp v FP.fconst0 = some .gt then 1069547520 else 3217031168, true) else (if FP.fcmp v FP.fconst0 = some .eq then FP.fconst0 else v, false) := rfl
  rw [hg] at hQ
  have lit : (FP.fcmp v 1069547520 = some .gt ∨ FP.fcmp v 3217031168 = some .lt) → J mM_afterF 14 [(0, vR 69), (1, vI m), (2, vF v)] [] σ Q := by
    intro h
    rw [if_pos h] at hQ
    refine j_aload_n (p2 := 15) dM_afterF_14 rfl rfl ?_
    refine j_iload_n (p2 := 16) dM_afterF_15 rfl rfl ?_
    refine j_callV (m' := mM_light) (As := [_]) (p2 := 19) dM_afterF_16 rfl ml_M_236 ok_mM_light im_mM_light se_mM_light rfl rfl (Nat.le_of_ble_eq_true rfl) ly_69 rfl (Nat.le_of_ble_eq_true rfl) ⟨(Nat.le_of_ble_eq_true rfl), (Nat.le_of_ble_eq_true rfl)⟩ ?_
    refine cM_light hm hl ?_
    refine j_fload_n (p2 := 20) dM_afterF_19 rfl rfl ?_
    refine j_fconst0 (p2 := 21) dM_afterF_20 rfl ?_
    refine j_fcmp_l_le (p1 := 22) (p2 := 25) (tg := 30) dM_afterF_21 rfl dM_afterF_22 rfl (by decide) (fun h21 => ?_) (fun h21 => ?_)
    · refine j_ldcf (p2 := 32) dM_afterF_30 rfl cw_M_241 ?_
      refine j_freturn dM_afterF_32 rfl (by simp_all only [if_true, if_false])
    · refine j_ldcf (p2 := 27) dM_afterF_25 rfl cw_M_240 ?_
      refine j_goto (p2 := 32) dM_afterF_27 (by decide) ?_
      refine j_freturn dM_afterF_32 rfl (by simp_all only [if_true, if_false])
  refine j_fload_n (p2 := 1) dM_afterF_0 rfl rfl ?_
  refine j_ldcf (p2 := 3) dM_afterF_1 rfl cw_M_240 ?_
  refine j_fcmp_l_gt (p1 := 4) (p2 := 7) (tg := 14) dM_afterF_3 rfl dM_afterF_4 rfl (by decide) (fun h3 => ?_) (fun h3 => ?_)
  · refine J.loc (lv' := [(0, _), (1, _), (2, _)]) ⟨rfl, rfl, rfl, trivial⟩ ?_
    exact lit (by simp only [*, true_or, or_true])
  · refine j_fload_n (p2 := 8) dM_afterF_7 rfl rfl ?_
    refine j_ldcf (p2 := 10) dM_afterF_8 rfl cw_M_241 ?_
    refine j_fcmp_g_ge (p1 := 11) (p2 := 14) (tg := 33) dM_afterF_10 rfl dM_afterF_11 rfl (by decide) (fun h10 => ?_) (fun h10 => ?_)
    · refine j_fload_n (p2 := 34) dM_afterF_33 rfl rfl ?_
      refine j_fconst0 (p2 := 35) dM_afterF_34 rfl ?_
      refine j_fcmp_l_ne (p1 := 36) (p2 := 39) (tg := 43) dM_afterF_35 rfl dM_afterF_36 rfl (by decide) (fun h35 => ?_) (fun h35 => ?_)
      · refine j_fload_n (p2 := 44) dM_afterF_43 rfl rfl ?_
        refine j_freturn dM_afterF_44 rfl (by rw [if_neg (by simp only [h3, h10, or_self, not_false_eq_true]), lmp_f, wI_id] at hQ; first | (rw [if_neg h35] at hQ; exact hQ) | (rw [if_pos h35] at hQ; exact hQ))
      · refine j_fconst0 (p2 := 40) dM_afterF_39 rfl ?_
        refine j_goto (p2 := 44) dM_afterF_40 (by decide) ?_
        refine j_freturn dM_afterF_44 rfl (by rw [if_neg (by simp only [h3, h10, or_self, not_false_eq_true]), lmp_f, wI_id] at hQ; first | (rw [if_neg h35] at hQ; exact hQ) | (rw [if_pos h35] at hQ; exact hQ))
    · refine J.loc (lv' := [(0, _), (1, _), (2, _)]) ⟨rfl, rfl, rfl, trivial⟩ ?_
      exact lit (by simp only [*, true_or, or_true])
theorem cM_input {m i : Int} (hm : 0 ≤ m ∧ m < 20) (hi : 0 ≤ i ∧ i < 6) (hf : 0 ≤ hI σ 72 (6 * m + i) ∧ hI σ 72 (6 * m + i) < 20) (ht : inR (hI σ 73 (6 * m + i))) (hQ : Q (some (vD (gin arD (hI σ 72) (hI σ 73) (hD σ 82) m i))) σ) : Sp mM_input [vR 69, vI m, vI i] σ Q := by
  unfold gin at hQ
  refine j_aload_n (p2 := 1) dM_input_0 rfl rfl ?_
  refine j_getR (p2 := 4) dM_input_1 rfl fa_M_53 ly_69 rfl ?_
  refine j_aload_n (p2 := 5) dM_input_4 rfl rfl ?_
  refine j_getR (p2 := 8) dM_input_5 rfl fa_M_17 ly_69 rfl ?_
  refine j_bipush (v := 6) (p2 := 10) dM_input_8 rfl rfl ?_
  refine j_iload_n (p2 := 11) dM_input_10 rfl rfl ?_
  refine j_imul (p2 := 12) dM_input_11 rfl ?_
  refine j_iload_n (p2 := 13) dM_input_12 rfl rfl ?_
  refine j_iadd (p2 := 14) dM_input_13 rfl ?_
  refine j_iald (p2 := 15) dM_input_14 rfl ly_72 (by decide) (by omega) (by omega) ?_
  refine j_dald (p2 := 16) dM_input_15 rfl ly_82 (by decide) (by omega) (by omega) ?_
  refine j_dstore_n (p2 := 17) (lv' := [(0, _), (1, _), (2, _), (3, _)]) dM_input_16 rfl (Nat.le_of_ble_eq_true rfl) ⟨rfl, rfl, rfl, rfl, trivial⟩ ?_
  refine j_aload_n (p2 := 18) dM_input_17 rfl rfl ?_
  refine j_getR (p2 := 21) dM_input_18 rfl fa_M_20 ly_69 rfl ?_
  refine j_bipush (v := 6) (p2 := 23) dM_input_21 rfl rfl ?_
  refine j_iload_n (p2 := 24) dM_input_23 rfl rfl ?_
  refine j_imul (p2 := 25) dM_input_24 rfl ?_
  refine j_iload_n (p2 := 26) dM_input_25 rfl rfl ?_
  refine j_iadd (p2 := 27) dM_input_26 rfl ?_
  refine j_zald (p2 := 28) dM_input_27 rfl ly_73 (by decide) (by omega) (by omega) ?_
  refine j_if_eq (p2 := 31) (tg := 36) dM_input_28 rfl (by decide) (by constructor <;> omega) (fun h28 => ?_) (fun h28 => ?_)
  · refine j_dload_n (p2 := 37) dM_input_36 rfl rfl ?_
    refine j_dreturn dM_input_37 rfl (by first | (rw [if_pos (by omega)] at hQ; exact hQ) | (rw [if_neg (by omega)] at hQ; exact hQ))
  · refine j_dload_n (p2 := 32) dM_input_31 rfl rfl ?_
    refine j_dneg (p2 := 33) dM_input_32 rfl ?_
    refine j_goto (p2 := 37) dM_input_33 (by decide) ?_
    refine j_dreturn dM_input_37 rfl (by first | (rw [if_pos (by omega)] at hQ; exact hQ) | (rw [if_neg (by omega)] at hQ; exact hQ))
theorem cM_inputF {m i : Int} (hm : 0 ≤ m ∧ m < 20) (hi : 0 ≤ i ∧ i < 6) (hf : 0 ≤ hI σ 72 (6 * m + i) ∧ hI σ 72 (6 * m + i) < 20) (ht : inR (hI σ 73 (6 * m + i))) (hQ : Q (some (vF (gin arF (hI σ 72) (hI σ 73) (hF σ 83) m i))) σ) : Sp mM_inputF [vR 69, vI m, vI i] σ Q := by
  unfold gin at hQ
  refine j_aload_n (p2 := 1) dM_inputF_0 rfl rfl ?_
  refine j_getR (p2 := 4) dM_inputF_1 rfl fa_M_56 ly_69 rfl ?_
  refine j_aload_n (p2 := 5) dM_inputF_4 rfl rfl ?_
  refine j_getR (p2 := 8) dM_inputF_5 rfl fa_M_17 ly_69 rfl ?_
  refine j_bipush (v := 6) (p2 := 10) dM_inputF_8 rfl rfl ?_
  refine j_iload_n (p2 := 11) dM_inputF_10 rfl rfl ?_
  refine j_imul (p2 := 12) dM_inputF_11 rfl ?_
  refine j_iload_n (p2 := 13) dM_inputF_12 rfl rfl ?_
  refine j_iadd (p2 := 14) dM_inputF_13 rfl ?_
  refine j_iald (p2 := 15) dM_inputF_14 rfl ly_72 (by decide) (by omega) (by omega) ?_
  refine j_fald (p2 := 16) dM_inputF_15 rfl ly_83 (by decide) (by omega) (by omega) ?_
  refine j_fstore_n (p2 := 17) (lv' := [(0, _), (1, _), (2, _), (3, _)]) dM_inputF_16 rfl (Nat.le_of_ble_eq_true rfl) ⟨rfl, rfl, rfl, rfl, trivial⟩ ?_
  refine j_aload_n (p2 := 18) dM_inputF_17 rfl rfl ?_
  refine j_getR (p2 := 21) dM_inputF_18 rfl fa_M_20 ly_69 rfl ?_
  refine j_bipush (v := 6) (p2 := 23) dM_inputF_21 rfl rfl ?_
  refine j_iload_n (p2 := 24) dM_inputF_23 rfl rfl ?_
  refine j_imul (p2 := 25) dM_inputF_24 rfl ?_
  refine j_iload_n (p2 := 26) dM_inputF_25 rfl rfl ?_
  refine j_iadd (p2 := 27) dM_inputF_26 rfl ?_
  refine j_zald (p2 := 28) dM_inputF_27 rfl ly_73 (by decide) (by omega) (by omega) ?_
  refine j_if_eq (p2 := 31) (tg := 36) dM_inputF_28 rfl (by decide) (by constructor <;> omega) (fun h28 => ?_) (fun h28 => ?_)
  · refine j_fload_n (p2 := 37) dM_inputF_36 rfl rfl ?_
    refine j_freturn dM_inputF_37 rfl (by first | (rw [if_pos (by omega)] at hQ; exact hQ) | (rw [if_neg (by omega)] at hQ; exact hQ))
  · refine j_fload_n (p2 := 32) dM_inputF_31 rfl rfl ?_
    refine j_fneg (p2 := 33) dM_inputF_32 rfl ?_
    refine j_goto (p2 := 37) dM_inputF_33 (by decide) ?_
    refine j_freturn dM_inputF_37 rfl (by first | (rw [if_pos (by omega)] at hQ; exact hQ) | (rw [if_neg (by omega)] at hQ; exact hQ))
end REF2
