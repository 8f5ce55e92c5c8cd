/-! ===== the class's twins: quotient, table, limit ===== -/
theorem hF_addI {a b : UInt32} (ha : vf_n32 a) (hb : FP.Core.FFin b) : rndC true (FP.dadd (FP.f2d a) (FP.f2d b)) = FP.f2d (FP.fadd a b) := by
  have hna := (FP.Core.notNaN_iff32 a).mp (vn32_to ha)
  cases hv : FP.Core.val32 a with
  | nan => exact absurd hv hna
  | fin s c q => exact hF_add ⟨s, c, q, hv⟩ hb
  | inf s =>
    have hbd : FP.Core.DFin (FP.f2d b) := by rw [fq_jf2d hb]; exact FP.Core.f2d_fin hb
    have e1 : FP.Core.val64 (FP.f2d a) = .inf s := by
      have e0 : FP.f2d a = FP.Core.f2d a := by unfold FP.f2d; rw [vn32_to ha]; rfl
      rw [e0, FP.Core.val64_f2d, hv]; rfl
    obtain ⟨t, c, q, e2⟩ := hb
    obtain ⟨t', c', q', e3⟩ := hbd
    have e4 : FP.dadd (FP.f2d a) (FP.f2d b) = FP.f2d a := by
      have e5 : FP.Core.val64 (FP.Core.dadd (FP.f2d a) (FP.f2d b)) = .inf s := by
        rw [FP.Core.val64_dadd, e1, e3]; rfl
      exact FP.Core.val64_inj (by rw [show FP.Core.val64 (FP.dadd (FP.f2d a) (FP.f2d b)) = _ from e5]; exact fun q => by cases q) (e5.trans e1.symm)
    have e6 : FP.fadd a b = a := by
      have e7 : FP.Core.val32 (FP.Core.fadd a b) = .inf s := by
        rw [FP.Core.val32_fadd, hv, e2]; rfl
      exact FP.Core.val32_inj (by rw [show FP.Core.val32 (FP.fadd a b) = _ from e7]; exact fun q => by cases q) (e7.trans hv.symm)
    have e8 : FP.d2f (FP.f2d a) = a := by
      have g1 : FP.f2d a = FP.Core.f2d a := by unfold FP.f2d; rw [vn32_to ha]; rfl
      have g2 : FP.Core.dIsNaN (FP.f2d a) = false := vn64_to (f2d_nn ha)
      rw [fq_jd2f g2, g1, FP.Core.d2f_f2d hna]
    rw [e4, e6, rndC_t, e8]
theorem hcD_addI {a b : UInt64} (_ha : vf_n64 a) (_hb : FnD b) : rndC false (FP.dadd (cvD a) (cvD b)) = cvD (Aadd arD a b) := rfl
theorem hcF_addI {a b : UInt32} (ha : vf_n32 a) (hb : FnF b) : rndC true (FP.dadd (cvF a) (cvF b)) = cvF (Aadd arF a b) := hF_addI ha hb
def gquo {α : Type} (A : Ar α) (a b : α) : α × Bool := if Acm A b (Ac A 0) = some .eq then (if Acm A a (Ac A 0) = some .eq then (Ac A 0, false) else (if Acm A a (Ac A 0) = some .gt then Ac A 3 else Ac A 4, true)) else (Adiv A a b, false)
def glim {α : Type} (A : Ar α) (a s : α) : α := if Acm A a s = some .gt then s else if Acm A a (Aneg A s) = some .lt then Aneg A s else a
theorem mg_fn {x : UInt64} {K : Nat} (h : mg x K) (hK : K ≤ 2047) : FnD x := h.fin hK
theorem mf_fn {x : UInt32} {K : Nat} (h : mf x K) (hK : K ≤ 255) : FnF x := h.fin hK
theorem nnqD_div {a b : UInt64} (ha : FnD a) (hb : FnD b) (hz : ¬ Acm arD b (Ac arD 0) = some .eq) : vf_n64 (Adiv arD a b) := nn_div ha hb hz
theorem nnqF_div {a b : UInt32} (ha : FnF a) (hb : FnF b) (hz : ¬ Acm arF b (Ac arF 0) = some .eq) : vf_n32 (Adiv arF a b) := nnf_div ha hb hz
theorem mg_mulX {a b : UInt64} (ha : mg a 1040) (hb : mg b 1040) : mg (FP.dmul a b) 1100 := (mg_mul ha hb (by decide) (by decide)).mono (by decide)
theorem mf_mulX {a b : UInt32} (ha : mf a 140) (hb : mf b 140) : mf (FP.fmul a b) 180 := (mf_mul2 ha hb (by decide) (by decide)).mono (by decide)
theorem cmp0D {x : UInt64} (hx : vf_n64 x) : FP.dcmp (cvD x) FP.dconst0 = Acm arD x (Ac arD 0) := (congrArg (FP.dcmp (cvD x)) (hcD_c 0 (by decide))).symm.trans (hcD_cmp hx (hcD_cf 0 (by decide)))
theorem bd_nnD {x : UInt64} (h : BdD x) : vf_n64 x := mg.nn h (by decide)
theorem fn_nnD {x : UInt64} (h : FnD x) : vf_n64 x := vn64_of h.notNaN
theorem nn_cD : ∀ k : Nat, k ≤ 6 → vf_n64 (Ac arD k) := fun k hk => fn_nnD (hcD_cf k hk)
theorem fn_negD {x : UInt64} (h : FnD x) : FnD (Aneg arD x) := by
  have h1 := (FP.Core.fin_bits x).mp h
  refine (FP.Core.fin_bits _).mpr ?_
  show (FP.dneg x).toNat % _ < _
  rw [dneg_mod]; exact h1
/-- what a table's row is, in a twin -/
theorem xvD (f : Int → UInt64) (j : Int) : rndC false (f j) = cvD ((f) j) := rfl
theorem cmp0F {x : UInt32} (hx : vf_n32 x) : FP.dcmp (cvF x) FP.dconst0 = Acm arF x (Ac arF 0) := (congrArg (FP.dcmp (cvF x)) (hcF_c 0 (by decide))).symm.trans (hcF_cmp hx (hcF_cf 0 (by decide)))
theorem bd_nnF {x : UInt32} (h : BdF x) : vf_n32 x := mf.nn h (by decide)
theorem fn_nnF {x : UInt32} (h : FnF x) : vf_n32 x := vn32_of h.notNaN
theorem nn_cF : ∀ k : Nat, k ≤ 6 → vf_n32 (Ac arF k) := fun k hk => fn_nnF (hcF_cf k hk)
theorem fn_negF {x : UInt32} (h : FnF x) : FnF (Aneg arF x) := by
  have h1 := (FP.Core.fin_bits32 x).mp h
  refine (FP.Core.fin_bits32 _).mpr ?_
  show (FP.fneg x).toNat % _ < _
  rw [fneg_mod]; exact h1
/-- what a table's row is, in a twin -/
theorem xvF (f : Int → UInt64) (j : Int) : rndC true (f j) = cvF ((xF f) j) := rfl
section TWC2
variable {σ : Hp} {Q : Option PV → Hp → Prop}
theorem cTd_quotient {m : Int} {a b : UInt64} (ha : BdD a) (hb : BdD b) (hfl : hI σ 21 3 = 0) (hm : 0 ≤ m ∧ m < 20) (hl : inR (hI σ 20 m)) (hQ : vf_n64 (gquo arD a b).1 → Q (some (vD (cvD (gquo arD a b).1))) (wI σ 20 (lmp (hI σ 20) m (hI σ 19 1) (gquo arD a b).2))) : Sp mT_quotient [vR 21, vI m, vD (cvD a), vD (cvD b)] σ Q := by
  have ea := cmp0D (bd_nnD ha)
  have eb := cmp0D (bd_nnD hb)
  unfold gquo at hQ
  have q1 : ¬ FP.dcmp (cvD b) FP.dconst0 = some .eq → vf_n64 (FP.ddiv (cvD a) (cvD b)) ∧ Q (some (vD (rndC false (FP.ddiv (cvD a) (cvD b))))) σ := fun h => by
    have hd : vf_n64 (FP.ddiv (cvD a) (cvD b)) := nn_div2 (cvD_nn (bd_nnD ha)) (cvD_fn hb.fn) h
    rw [eb] at h
    rw [if_neg h, lmp_f, wI_id] at hQ
    rw [hcD_div ha.fn hb.fn h]
    exact ⟨hd, hQ (nnqD_div ha.fn hb.fn h)⟩
  have q2 : FP.dcmp (cvD b) FP.dconst0 = some .eq → FP.dcmp (cvD a) FP.dconst0 = some .eq → Q (some (vD FP.dconst0)) σ := fun h g => by
    rw [eb] at h
    rw [ea] at g
    rw [if_pos h, if_pos g, lmp_f, wI_id, hcD_c 0 (by decide)] at hQ
    exact hQ (nn_cD 0 (by decide))
  have q3 : FP.dcmp (cvD b) FP.dconst0 = some .eq → ¬ FP.dcmp (cvD a) FP.dconst0 = some .eq → FP.dcmp (cvD a) FP.dconst0 = some .gt → Q (some (vD 4609434218613702656)) (wI σ 20 (lmp (hI σ 20) m (hI σ 19 1) true)) := fun h g k => by
    rw [eb] at h
    rw [ea] at g k
    rw [if_pos h, if_neg g, if_pos k, hcD_c 3 (by decide)] at hQ
    exact hQ (nn_cD 3 (by decide))
  have q4 : FP.dcmp (cvD b) FP.dconst0 = some .eq → ¬ FP.dcmp (cvD a) FP.dconst0 = some .eq → ¬ FP.dcmp (cvD a) FP.dconst0 = some .gt → Q (some (vD 13832806255468478464)) (wI σ 20 (lmp (hI σ 20) m (hI σ 19 1) true)) := fun h g k => by
    rw [eb] at h
    rw [ea] at g k
    rw [if_pos h, if_neg g, if_neg k, hcD_c 4 (by decide)] at hQ
    exact hQ (nn_cD 4 (by decide))
  refine j_dload (p2 := 2) dT_quotient_0 rfl rfl ?_
  refine j_dconst0 (p2 := 3) dT_quotient_2 rfl ?_
  refine j_dcmp_l_eq (p1 := 4) (p2 := 7) (tg := 16) dT_quotient_3 rfl dT_quotient_4 rfl (by decide) (fun h3 => ?_) (fun h3 => ?_)
  · refine j_dload_n (p2 := 17) dT_quotient_16 rfl rfl ?_
    refine j_dconst0 (p2 := 18) dT_quotient_17 rfl ?_
    refine j_dcmp_l_ne (p1 := 19) (p2 := 22) (tg := 24) dT_quotient_18 rfl dT_quotient_19 rfl (by decide) (fun h18 => ?_) (fun h18 => ?_)
    · refine j_aload_n (p2 := 25) dT_quotient_24 rfl rfl ?_
      refine j_getR (p2 := 28) dT_quotient_25 rfl fa_T_57 ly_21 rfl ?_
      refine j_iload_n (p2 := 29) dT_quotient_28 rfl rfl ?_
      refine j_callV (m' := mL_light) (As := [_]) (p2 := 32) dT_quotient_29 rfl ml_T_155 ok_mL_light im_mL_light se_mL_light rfl rfl (Nat.le_of_ble_eq_true rfl) ly_19 rfl (Nat.le_of_ble_eq_true rfl) ⟨(Nat.le_of_ble_eq_true rfl), (Nat.le_of_ble_eq_true rfl)⟩ ?_
      refine cTd_light hm hl ?_
      refine j_dload_n (p2 := 33) dT_quotient_32 rfl rfl ?_
      refine j_dconst0 (p2 := 34) dT_quotient_33 rfl ?_
      refine j_dcmp_l_le (p1 := 35) (p2 := 38) (tg := 44) dT_quotient_34 rfl dT_quotient_35 rfl (by decide) (fun h34 => ?_) (fun h34 => ?_)
      · refine j_ldc2d (p2 := 47) dT_quotient_44 rfl cw_T_161 ?_
        refine j_dreturn dT_quotient_47 rfl (by first | exact q3 h3 h18 h34 | exact q4 h3 h18 h34)
      · refine j_ldc2d (p2 := 41) dT_quotient_38 rfl cw_T_153 ?_
        refine j_goto (p2 := 47) dT_quotient_41 (by decide) ?_
        refine j_dreturn dT_quotient_47 rfl (by first | exact q3 h3 h18 h34 | exact q4 h3 h18 h34)
    · refine j_dconst0 (p2 := 23) dT_quotient_22 rfl ?_
      refine j_dreturn dT_quotient_23 rfl (by exact q2 h3 h18)
  · refine j_aload_n (p2 := 8) dT_quotient_7 rfl rfl ?_
    refine j_dload_n (p2 := 9) dT_quotient_8 rfl rfl ?_
    refine j_dload (p2 := 11) dT_quotient_9 rfl rfl ?_
    refine j_ddiv (p2 := 12) dT_quotient_11 rfl (q1 h3).1 ?_
    refine j_callV (m' := mT_rounded) (As := [_]) (p2 := 15) dT_quotient_12 rfl ml_T_74 ok_mT_rounded im_mT_rounded se_mT_rounded rfl rfl (Nat.le_of_ble_eq_true rfl) ly_21 rfl (Nat.le_of_ble_eq_true rfl) ⟨(Nat.le_of_ble_eq_true rfl), (Nat.le_of_ble_eq_true rfl)⟩ ?_
    refine cTd_rounded hfl (q1 h3).1 ?_
    refine j_dreturn dT_quotient_15 rfl (by exact (q1 h3).2)
theorem cTd_notBelowZero {m : Int} {a : UInt64} (ha : BdD a) (hm : 0 ≤ m ∧ m < 20) (hl : inR (hI σ 20 m)) (h1 : Acm arD a (Ac arD 0) = some .lt → Q (some (vD FP.dconst0)) (wI σ 20 (lmp (hI σ 20) m (hI σ 19 1) true))) (hh2 : ¬ Acm arD a (Ac arD 0) = some .lt → Q (some (vD (cvD a))) σ) : Sp mT_notBelowZero [vR 21, vI m, vD (cvD a)] σ Q := by
  have ea := cmp0D (bd_nnD ha)
  refine j_dload_n (p2 := 1) dT_notBelowZero_0 rfl rfl ?_
  refine j_dconst0 (p2 := 2) dT_notBelowZero_1 rfl ?_
  refine j_dcmp_g_ge (p1 := 3) (p2 := 6) (tg := 16) dT_notBelowZero_2 rfl dT_notBelowZero_3 rfl (by decide) (fun h2 => ?_) (fun h2 => ?_)
  · refine j_dload_n (p2 := 17) dT_notBelowZero_16 rfl rfl ?_
    refine j_dreturn dT_notBelowZero_17 rfl (by rw [ea] at h2; first | exact h1 h2 | exact hh2 h2)
  · refine j_aload_n (p2 := 7) dT_notBelowZero_6 rfl rfl ?_
    refine j_getR (p2 := 10) dT_notBelowZero_7 rfl fa_T_57 ly_21 rfl ?_
    refine j_iload_n (p2 := 11) dT_notBelowZero_10 rfl rfl ?_
    refine j_callV (m' := mL_light) (As := [_]) (p2 := 14) dT_notBelowZero_11 rfl ml_T_155 ok_mL_light im_mL_light se_mL_light rfl rfl (Nat.le_of_ble_eq_true rfl) ly_19 rfl (Nat.le_of_ble_eq_true rfl) ⟨(Nat.le_of_ble_eq_true rfl), (Nat.le_of_ble_eq_true rfl)⟩ ?_
    refine cTd_light hm hl ?_
    refine j_dconst0 (p2 := 15) dT_notBelowZero_14 rfl ?_
    refine j_dreturn dT_notBelowZero_15 rfl (by rw [ea] at h2; first | exact h1 h2 | exact hh2 h2)
theorem cTf_quotient {m : Int} {a b : UInt32} (ha : BdF a) (hb : BdF b) (hfl : hI σ 34 3 = 1) (hm : 0 ≤ m ∧ m < 20) (hl : inR (hI σ 20 m)) (hQ : vf_n32 (gquo arF a b).1 → Q (some (vD (cvF (gquo arF a b).1))) (wI σ 20 (lmp (hI σ 20) m (hI σ 19 1) (gquo arF a b).2))) : Sp mT_quotient [vR 34, vI m, vD (cvF a), vD (cvF b)] σ Q := by
  have ea := cmp0F (bd_nnF ha)
  have eb := cmp0F (bd_nnF hb)
  unfold gquo at hQ
  have q1 : ¬ FP.dcmp (cvF b) FP.dconst0 = some .eq → vf_n64 (FP.ddiv (cvF a) (cvF b)) ∧ Q (some (vD (rndC true (FP.ddiv (cvF a) (cvF b))))) σ := fun h => by
    have hd : vf_n64 (FP.ddiv (cvF a) (cvF b)) := nn_div2 (cvF_nn (bd_nnF ha)) (cvF_fn hb.fn) h
    rw [eb] at h
    rw [if_neg h, lmp_f, wI_id] at hQ
    rw [hcF_div ha.fn hb.fn h]
    exact ⟨hd, hQ (nnqF_div ha.fn hb.fn h)⟩
  have q2 : FP.dcmp (cvF b) FP.dconst0 = some .eq → FP.dcmp (cvF a) FP.dconst0 = some .eq → Q (some (vD FP.dconst0)) σ := fun h g => by
    rw [eb] at h
    rw [ea] at g
    rw [if_pos h, if_pos g, lmp_f, wI_id, hcF_c 0 (by decide)] at hQ
    exact hQ (nn_cF 0 (by decide))
  have q3 : FP.dcmp (cvF b) FP.dconst0 = some .eq → ¬ FP.dcmp (cvF a) FP.dconst0 = some .eq → FP.dcmp (cvF a) FP.dconst0 = some .gt → Q (some (vD 4609434218613702656)) (wI σ 20 (lmp (hI σ 20) m (hI σ 19 1) true)) := fun h g k => by
    rw [eb] at h
    rw [ea] at g k
    rw [if_pos h, if_neg g, if_pos k, hcF_c 3 (by decide)] at hQ
    exact hQ (nn_cF 3 (by decide))
  have q4 : FP.dcmp (cvF b) FP.dconst0 = some .eq → ¬ FP.dcmp (cvF a) FP.dconst0 = some .eq → ¬ FP.dcmp (cvF a) FP.dconst0 = some .gt → Q (some (vD 13832806255468478464)) (wI σ 20 (lmp (hI σ 20) m (hI σ 19 1) true)) := fun h g k => by
    rw [eb] at h
    rw [ea] at g k
    rw [if_pos h, if_neg g, if_neg k, hcF_c 4 (by decide)] at hQ
    exact hQ (nn_cF 4 (by decide))
  refine j_dload (p2 := 2) dT_quotient_0 rfl rfl ?_
  refine j_dconst0 (p2 := 3) dT_quotient_2 rfl ?_
  refine j_dcmp_l_eq (p1 := 4) (p2 := 7) (tg := 16) dT_quotient_3 rfl dT_quotient_4 rfl (by decide) (fun h3 => ?_) (fun h3 => ?_)
  · refine j_dload_n (p2 := 17) dT_quotient_16 rfl rfl ?_
    refine j_dconst0 (p2 := 18) dT_quotient_17 rfl ?_
    refine j_dcmp_l_ne (p1 := 19) (p2 := 22) (tg := 24) dT_quotient_18 rfl dT_quotient_19 rfl (by decide) (fun h18 => ?_) (fun h18 => ?_)
    · refine j_aload_n (p2 := 25) dT_quotient_24 rfl rfl ?_
      refine j_getR (p2 := 28) dT_quotient_25 rfl fa_T_57 ly_34 rfl ?_
      refine j_iload_n (p2 := 29) dT_quotient_28 rfl rfl ?_
      refine j_callV (m' := mL_light) (As := [_]) (p2 := 32) dT_quotient_29 rfl ml_T_155 ok_mL_light im_mL_light se_mL_light rfl rfl (Nat.le_of_ble_eq_true rfl) ly_19 rfl (Nat.le_of_ble_eq_true rfl) ⟨(Nat.le_of_ble_eq_true rfl), (Nat.le_of_ble_eq_true rfl)⟩ ?_
      refine cTf_light hm hl ?_
      refine j_dload_n (p2 := 33) dT_quotient_32 rfl rfl ?_
      refine j_dconst0 (p2 := 34) dT_quotient_33 rfl ?_
      refine j_dcmp_l_le (p1 := 35) (p2 := 38) (tg := 44) dT_quotient_34 rfl dT_quotient_35 rfl (by decide) (fun h34 => ?_) (fun h34 => ?_)
      · refine j_ldc2d (p2 := 47) dT_quotient_44 rfl cw_T_161 ?_
        refine j_dreturn dT_quotient_47 rfl (by first | exact q3 h3 h18 h34 | exact q4 h3 h18 h34)
      · refine j_ldc2d (p2 := 41) dT_quotient_38 rfl cw_T_153 ?_
        refine j_goto (p2 := 47) dT_quotient_41 (by decide) ?_
        refine j_dreturn dT_quotient_47 rfl (by first | exact q3 h3 h18 h34 | exact q4 h3 h18 h34)
    · refine j_dconst0 (p2 := 23) dT_quotient_22 rfl ?_
      refine j_dreturn dT_quotient_23 rfl (by exact q2 h3 h18)
  · refine j_aload_n (p2 := 8) dT_quotient_7 rfl rfl ?_
    refine j_dload_n (p2 := 9) dT_quotient_8 rfl rfl ?_
    refine j_dload (p2 := 11) dT_quotient_9 rfl rfl ?_
    refine j_ddiv (p2 := 12) dT_quotient_11 rfl (q1 h3).1 ?_
    refine j_callV (m' := mT_rounded) (As := [_]) (p2 := 15) dT_quotient_12 rfl ml_T_74 ok_mT_rounded im_mT_rounded se_mT_rounded rfl rfl (Nat.le_of_ble_eq_true rfl) ly_34 rfl (Nat.le_of_ble_eq_true rfl) ⟨(Nat.le_of_ble_eq_true rfl), (Nat.le_of_ble_eq_true rfl)⟩ ?_
    refine cTf_rounded hfl (q1 h3).1 ?_
    refine j_dreturn dT_quotient_15 rfl (by exact (q1 h3).2)
theorem cTf_notBelowZero {m : Int} {a : UInt32} (ha : BdF a) (hm : 0 ≤ m ∧ m < 20) (hl : inR (hI σ 20 m)) (h1 : Acm arF a (Ac arF 0) = some .lt → Q (some (vD FP.dconst0)) (wI σ 20 (lmp (hI σ 20) m (hI σ 19 1) true))) (hh2 : ¬ Acm arF a (Ac arF 0) = some .lt → Q (some (vD (cvF a))) σ) : Sp mT_notBelowZero [vR 34, vI m, vD (cvF a)] σ Q := by
  have ea := cmp0F (bd_nnF ha)
  refine j_dload_n (p2 := 1) dT_notBelowZero_0 rfl rfl ?_
  refine j_dconst0 (p2 := 2) dT_notBelowZero_1 rfl ?_
  refine j_dcmp_g_ge (p1 := 3) (p2 := 6) (tg := 16) dT_notBelowZero_2 rfl dT_notBelowZero_3 rfl (by decide) (fun h2 => ?_) (fun h2 => ?_)
  · refine j_dload_n (p2 := 17) dT_notBelowZero_16 rfl rfl ?_
    refine j_dreturn dT_notBelowZero_17 rfl (by rw [ea] at h2; first | exact h1 h2 | exact hh2 h2)
  · refine j_aload_n (p2 := 7) dT_notBelowZero_6 rfl rfl ?_
    refine j_getR (p2 := 10) dT_notBelowZero_7 rfl fa_T_57 ly_34 rfl ?_
    refine j_iload_n (p2 := 11) dT_notBelowZero_10 rfl rfl ?_
    refine j_callV (m' := mL_light) (As := [_]) (p2 := 14) dT_notBelowZero_11 rfl ml_T_155 ok_mL_light im_mL_light se_mL_light rfl rfl (Nat.le_of_ble_eq_true rfl) ly_19 rfl (Nat.le_of_ble_eq_true rfl) ⟨(Nat.le_of_ble_eq_true rfl), (Nat.le_of_ble_eq_true rfl)⟩ ?_
    refine cTf_light hm hl ?_
    refine j_dconst0 (p2 := 15) dT_notBelowZero_14 rfl ?_
    refine j_dreturn dT_notBelowZero_15 rfl (by rw [ea] at h2; first | exact h1 h2 | exact hh2 h2)
theorem cTt_quotient {m : Int} {a b : UInt64} (ha : BdD a) (hb : BdD b) (hfl : hI σ 56 3 = 0) (hm : 0 ≤ m ∧ m < 20) (hl : inR (hI σ 55 m)) (hQ : vf_n64 (gquo arD a b).1 → Q (some (vD (cvD (gquo arD a b).1))) (wI σ 55 (lmp (hI σ 55) m (hI σ 54 1) (gquo arD a b).2))) : Sp mT_quotient [vR 56, vI m, vD (cvD a), vD (cvD b)] σ Q := by
  have ea := cmp0D (bd_nnD ha)
  have eb := cmp0D (bd_nnD hb)
  unfold gquo at hQ
  have q1 : ¬ FP.dcmp (cvD b) FP.dconst0 = some .eq → vf_n64 (FP.ddiv (cvD a) (cvD b)) ∧ Q (some (vD (rndC false (FP.ddiv (cvD a) (cvD b))))) σ := fun h => by
    have hd : vf_n64 (FP.ddiv (cvD a) (cvD b)) := nn_div2 (cvD_nn (bd_nnD ha)) (cvD_fn hb.fn) h
    rw [eb] at h
    rw [if_neg h, lmp_f, wI_id] at hQ
    rw [hcD_div ha.fn hb.fn h]
    exact ⟨hd, hQ (nnqD_div ha.fn hb.fn h)⟩
  have q2 : FP.dcmp (cvD b) FP.dconst0 = some .eq → FP.dcmp (cvD a) FP.dconst0 = some .eq → Q (some (vD FP.dconst0)) σ := fun h g => by
    rw [eb] at h
    rw [ea] at g
    rw [if_pos h, if_pos g, lmp_f, wI_id, hcD_c 0 (by decide)] at hQ
    exact hQ (nn_cD 0 (by decide))
  have q3 : FP.dcmp (cvD b) FP.dconst0 = some .eq → ¬ FP.dcmp (cvD a) FP.dconst0 = some .eq → FP.dcmp (cvD a) FP.dconst0 = some .gt → Q (some (vD 4609434218613702656)) (wI σ 55 (lmp (hI σ 55) m (hI σ 54 1) true)) := fun h g k => by
    rw [eb] at h
    rw [ea] at g k
    rw [if_pos h, if_neg g, if_pos k, hcD_c 3 (by decide)] at hQ
    exact hQ (nn_cD 3 (by decide))
  have q4 : FP.dcmp (cvD b) FP.dconst0 = some .eq → ¬ FP.dcmp (cvD a) FP.dconst0 = some .eq → ¬ FP.dcmp (cvD a) FP.dconst0 = some .gt → Q (some (vD 13832806255468478464)) (wI σ 55 (lmp (hI σ 55) m (hI σ 54 1) true)) := fun h g k => by
    rw [eb] at h
    rw [ea] at g k
    rw [if_pos h, if_neg g, if_neg k, hcD_c 4 (by decide)] at hQ
    exact hQ (nn_cD 4 (by decide))
  refine j_dload (p2 := 2) dT_quotient_0 rfl rfl ?_
  refine j_dconst0 (p2 := 3) dT_quotient_2 rfl ?_
  refine j_dcmp_l_eq (p1 := 4) (p2 := 7) (tg := 16) dT_quotient_3 rfl dT_quotient_4 rfl (by decide) (fun h3 => ?_) (fun h3 => ?_)
  · refine j_dload_n (p2 := 17) dT_quotient_16 rfl rfl ?_
    refine j_dconst0 (p2 := 18) dT_quotient_17 rfl ?_
    refine j_dcmp_l_ne (p1 := 19) (p2 := 22) (tg := 24) dT_quotient_18 rfl dT_quotient_19 rfl (by decide) (fun h18 => ?_) (fun h18 => ?_)
    · refine j_aload_n (p2 := 25) dT_quotient_24 rfl rfl ?_
      refine j_getR (p2 := 28) dT_quotient_25 rfl fa_T_57 ly_56 rfl ?_
      refine j_iload_n (p2 := 29) dT_quotient_28 rfl rfl ?_
      refine j_callV (m' := mL_light) (As := [_]) (p2 := 32) dT_quotient_29 rfl ml_T_155 ok_mL_light im_mL_light se_mL_light rfl rfl (Nat.le_of_ble_eq_true rfl) ly_54 rfl (Nat.le_of_ble_eq_true rfl) ⟨(Nat.le_of_ble_eq_true rfl), (Nat.le_of_ble_eq_true rfl)⟩ ?_
      refine cTt_light hm hl ?_
      refine j_dload_n (p2 := 33) dT_quotient_32 rfl rfl ?_
      refine j_dconst0 (p2 := 34) dT_quotient_33 rfl ?_
      refine j_dcmp_l_le (p1 := 35) (p2 := 38) (tg := 44) dT_quotient_34 rfl dT_quotient_35 rfl (by decide) (fun h34 => ?_) (fun h34 => ?_)
      · refine j_ldc2d (p2 := 47) dT_quotient_44 rfl cw_T_161 ?_
        refine j_dreturn dT_quotient_47 rfl (by first | exact q3 h3 h18 h34 | exact q4 h3 h18 h34)
      · refine j_ldc2d (p2 := 41) dT_quotient_38 rfl cw_T_153 ?_
        refine j_goto (p2 := 47) dT_quotient_41 (by decide) ?_
        refine j_dreturn dT_quotient_47 rfl (by first | exact q3 h3 h18 h34 | exact q4 h3 h18 h34)
    · refine j_dconst0 (p2 := 23) dT_quotient_22 rfl ?_
      refine j_dreturn dT_quotient_23 rfl (by exact q2 h3 h18)
  · refine j_aload_n (p2 := 8) dT_quotient_7 rfl rfl ?_
    refine j_dload_n (p2 := 9) dT_quotient_8 rfl rfl ?_
    refine j_dload (p2 := 11) dT_quotient_9 rfl rfl ?_
    refine j_ddiv (p2 := 12) dT_quotient_11 rfl (q1 h3).1 ?_
    refine j_callV (m' := mT_rounded) (As := [_]) (p2 := 15) dT_quotient_12 rfl ml_T_74 ok_mT_rounded im_mT_rounded se_mT_rounded rfl rfl (Nat.le_of_ble_eq_true rfl) ly_56 rfl (Nat.le_of_ble_eq_true rfl) ⟨(Nat.le_of_ble_eq_true rfl), (Nat.le_of_ble_eq_true rfl)⟩ ?_
    refine cTt_rounded hfl (q1 h3).1 ?_
    refine j_dreturn dT_quotient_15 rfl (by exact (q1 h3).2)
theorem cTt_notBelowZero {m : Int} {a : UInt64} (ha : BdD a) (hm : 0 ≤ m ∧ m < 20) (hl : inR (hI σ 55 m)) (h1 : Acm arD a (Ac arD 0) = some .lt → Q (some (vD FP.dconst0)) (wI σ 55 (lmp (hI σ 55) m (hI σ 54 1) true))) (hh2 : ¬ Acm arD a (Ac arD 0) = some .lt → Q (some (vD (cvD a))) σ) : Sp mT_notBelowZero [vR 56, vI m, vD (cvD a)] σ Q := by
  have ea := cmp0D (bd_nnD ha)
  refine j_dload_n (p2 := 1) dT_notBelowZero_0 rfl rfl ?_
  refine j_dconst0 (p2 := 2) dT_notBelowZero_1 rfl ?_
  refine j_dcmp_g_ge (p1 := 3) (p2 := 6) (tg := 16) dT_notBelowZero_2 rfl dT_notBelowZero_3 rfl (by decide) (fun h2 => ?_) (fun h2 => ?_)
  · refine j_dload_n (p2 := 17) dT_notBelowZero_16 rfl rfl ?_
    refine j_dreturn dT_notBelowZero_17 rfl (by rw [ea] at h2; first | exact h1 h2 | exact hh2 h2)
  · refine j_aload_n (p2 := 7) dT_notBelowZero_6 rfl rfl ?_
    refine j_getR (p2 := 10) dT_notBelowZero_7 rfl fa_T_57 ly_56 rfl ?_
    refine j_iload_n (p2 := 11) dT_notBelowZero_10 rfl rfl ?_
    refine j_callV (m' := mL_light) (As := [_]) (p2 := 14) dT_notBelowZero_11 rfl ml_T_155 ok_mL_light im_mL_light se_mL_light rfl rfl (Nat.le_of_ble_eq_true rfl) ly_54 rfl (Nat.le_of_ble_eq_true rfl) ⟨(Nat.le_of_ble_eq_true rfl), (Nat.le_of_ble_eq_true rfl)⟩ ?_
    refine cTt_light hm hl ?_
    refine j_dconst0 (p2 := 15) dT_notBelowZero_14 rfl ?_
    refine j_dreturn dT_notBelowZero_15 rfl (by rw [ea] at h2; first | exact h1 h2 | exact hh2 h2)
end TWC2
