/-! ===== more on doubles and floats ===== -/
theorem dsub_pos {x y : UInt64} (hx : FP.Core.DFin x) (hy : FP.Core.DFin y) (h : FP.dcmp x y = some .lt) : FP.dcmp (FP.dsub y x) FP.dconst0 = some .gt := by
  obtain ⟨h1, h2, h3⟩ := FP.Core.dcmp_lt.mp h
  obtain ⟨s, c, q, e1⟩ := hx
  obtain ⟨t, d, r, e2⟩ := hy
  have hz := FP.Core.zval64_zero
  have hsub : FP.Core.val64 (FP.Core.dsub y x) = FP.Core.round FP.Core.b64 (FP.Core.exactSum (.fin t d r) (.fin (!s) c q)) := by
    rw [FP.Core.val64_dsub, e1, e2]; rfl
  have hne := FP.Core.dsub_of_lt h
  have hnn := (FP.Core.notNaN_iff _).mp hne
  have fx : FP.Core.fits FP.Core.b64 (.fin s c q) := e1 ▸ FP.Core.val64_fits x
  have fy : FP.Core.fits FP.Core.b64 (.fin t d r) := e2 ▸ FP.Core.val64_fits y
  obtain ⟨sg, n, e, k1, k2, k3⟩ := FP.Core.sum_units fy (FP.Core.negate_fits fx : FP.Core.fits FP.Core.b64 (.fin (!s) c q))
  have hneg : FP.Core.zval FP.Core.b64 (.fin (!s) c q) = - FP.Core.zval FP.Core.b64 (.fin s c q) := FP.Core.zval_negate FP.Core.b64 (.fin s c q)
  rw [e1, e2] at h3
  rw [hneg] at k3
  -- the least number above 0
  have hV : FP.Core.fits FP.Core.b64 (FP.Core.val64 1) := FP.Core.val64_fits 1
  have hV1 : FP.Core.zval FP.Core.b64 (FP.Core.val64 1) = 1 := by decide +kernel
  have hge := FP.Core.zval_round_ge FP.Core.good_b64 (s := sg) (c := n) (q := e) (e0 := FP.Core.b64.qmin) hV (by decide +kernel) (Int.le_refl _) k2 (by
    rw [hV1, k3, Int.sub_self]
    show (1 : Int) * ((2 ^ (0 : Int).toNat : Nat) : Int) ≤ _
    rw [show ((2 ^ (0 : Int).toNat : Nat) : Int) = 1 from rfl]
    omega)
  rw [← k1, ← hsub, hV1] at hge
  show FP.Core.dcmp _ 0 = _
  rw [FP.Core.dcmp_gt]
  refine ⟨hnn, by decide +kernel, ?_⟩
  rw [hz]
  exact Int.lt_of_lt_of_le (by decide) hge
theorem fsub_pos {x y : UInt32} (hx : FP.Core.FFin x) (hy : FP.Core.FFin y) (h : FP.fcmp x y = some .lt) : FP.fcmp (FP.fsub y x) FP.fconst0 = some .gt := by
  obtain ⟨h1, h2, h3⟩ := FP.Core.fcmp_lt.mp h
  obtain ⟨s, c, q, e1⟩ := hx
  obtain ⟨t, d, r, e2⟩ := hy
  have hz := FP.Core.zval32_zero
  have hsub : FP.Core.val32 (FP.Core.fsub y x) = FP.Core.round FP.Core.b32 (FP.Core.exactSum (.fin t d r) (.fin (!s) c q)) := by
    rw [FP.Core.val32_fsub, e1, e2]; rfl
  have hne := FP.Core.fsub_of_lt h
  have hnn := (FP.Core.notNaN_iff32 _).mp hne
  have fx : FP.Core.fits FP.Core.b32 (.fin s c q) := e1 ▸ FP.Core.val32_fits x
  have fy : FP.Core.fits FP.Core.b32 (.fin t d r) := e2 ▸ FP.Core.val32_fits y
  obtain ⟨sg, n, e, k1, k2, k3⟩ := FP.Core.sum_units fy (FP.Core.negate_fits fx : FP.Core.fits FP.Core.b32 (.fin (!s) c q))
  have hneg : FP.Core.zval FP.Core.b32 (.fin (!s) c q) = - FP.Core.zval FP.Core.b32 (.fin s c q) := FP.Core.zval_negate FP.Core.b32 (.fin s c q)
  rw [e1, e2] at h3
  rw [hneg] at k3
  have hV : FP.Core.fits FP.Core.b32 (FP.Core.val32 1) := FP.Core.val32_fits 1
  have hV1 : FP.Core.zval FP.Core.b32 (FP.Core.val32 1) = 1 := by decide +kernel
  have hge := FP.Core.zval_round_ge FP.Core.good_b32 (s := sg) (c := n) (q := e) (e0 := FP.Core.b32.qmin) hV (by decide +kernel) (Int.le_refl _) k2 (by
    rw [hV1, k3, Int.sub_self]
    show (1 : Int) * ((2 ^ (0 : Int).toNat : Nat) : Int) ≤ _
    rw [show ((2 ^ (0 : Int).toNat : Nat) : Int) = 1 from rfl]
    omega)
  rw [← k1, ← hsub, hV1] at hge
  show FP.Core.fcmp _ 0 = _
  rw [FP.Core.fcmp_gt]
  refine ⟨hnn, by decide +kernel, ?_⟩
  rw [hz]
  exact Int.lt_of_lt_of_le (by decide) hge
theorem d2f_mf {x : UInt64} (h : mg x 1024) : mf (FP.d2f x) 129 := by
  have hfin := h.fin (by decide)
  rw [fq_jd2f hfin.notNaN]
  have hz := FP.Core.zmag_bits hfin.ne_nan
  obtain ⟨s, c, q, e⟩ := hfin
  have hfit : FP.Core.fits FP.Core.b64 (.fin s c q) := e ▸ FP.Core.val64_fits x
  have hq : (-1074 : Int) ≤ q := hfit.2.1
  have hv : FP.Core.decode FP.Core.b32 (FP.Core.d2f x).toNat = FP.Core.roundRatio FP.Core.b32 s c 1 q := by
    show FP.Core.val32 (FP.Core.d2f x) = _
    rw [FP.Core.val32_d2f, e]; rfl
  have hu : FP.Core.unitsOf FP.Core.b64 (x.toNat % 2 ^ 63) < FP.Core.unitsOf FP.Core.b64 (1024 * 2 ^ 52) := FP.Core.unitsOf_lt h
  have hu2 : FP.Core.unitsOf FP.Core.b64 (1024 * 2 ^ 52) = 2 ^ 1075 := by decide +kernel
  rw [hu2, ← hz, e] at hu
  have hm := FP.Core.mag_le FP.Core.good_b32 (m := 128 * 2 ^ 23) (e0 := -1074) hv (by decide) (by decide) hq (by
    have e2 : FP.Core.unitsOf FP.Core.b32 (128 * 2 ^ 23) * 2 ^ (FP.Core.b32.qmin - -1074).toNat * 1 = 2 ^ 1075 := by decide +kernel
    rw [e2]
    exact Nat.le_of_lt hu)
  rw [FP.Core.mag_toNat32] at hm
  unfold mf
  omega
theorem dcmp_sw {x y : UInt64} {o : Ordering} (h : FP.dcmp x y = some o) : FP.dcmp y x = some o.swap := by
  show FP.Core.dcmp y x = _
  rw [FP.Core.dcmp_swap x y]
  rw [show FP.Core.dcmp x y = some o from h]; rfl
theorem fcmp_sw {x y : UInt32} {o : Ordering} (h : FP.fcmp x y = some o) : FP.fcmp y x = some o.swap := by
  show FP.Core.fcmp y x = _
  rw [FP.Core.fcmp_swap x y]
  rw [show FP.Core.fcmp x y = some o from h]; rfl
/-- what is not above 1.5 and not below -1.5 -/
theorem mg_of15 {v : UInt64} (hn : vf_n64 v) (h1 : ¬ FP.dcmp v 4609434218613702656 = some .gt) (h2 : ¬ FP.dcmp v 13832806255468478464 = some .lt) : v.toNat % 2 ^ 63 ≤ 4609434218613702656 := by
  have hv := (FP.Core.ne_nan v).mpr (vn64.mp hn)
  have c1 : FP.Core.val64 4609434218613702656 ≠ .nan := by decide +kernel
  have c2 : FP.Core.val64 13832806255468478464 ≠ .nan := by decide +kernel
  have k1 := fun h => h1 ((FP.Core.dcmp_gt_key hv c1).mpr h)
  have k2 := fun h => h2 ((FP.Core.dcmp_lt_key hv c2).mpr h)
  have e1 : FP.Core.dkey 4609434218613702656 = 4609434218613702656 := by decide +kernel
  have e2 : FP.Core.dkey 13832806255468478464 = -4609434218613702656 := by decide +kernel
  rw [e1] at k1
  rw [e2] at k2
  have g1 := Int.not_lt.mp k1
  have g2 := Int.not_lt.mp k2
  unfold FP.Core.dkey at g1 g2
  have hlt : v.toNat < 2 ^ 64 := v.toNat_lt
  by_cases hs : 2 ^ 63 ≤ v.toNat
  · rw [if_pos hs] at g1 g2
    omega
  · rw [if_neg hs] at g1 g2
    omega
theorem mf_of15 {v : UInt32} (hn : vf_n32 v) (h1 : ¬ FP.fcmp v 1069547520 = some .gt) (h2 : ¬ FP.fcmp v 3217031168 = some .lt) : v.toNat % 2 ^ 31 ≤ 1069547520 := by
  have hv := (FP.Core.ne_nan32 v).mpr (vn32.mp hn)
  have c1 : FP.Core.val32 1069547520 ≠ .nan := by decide +kernel
  have c2 : FP.Core.val32 3217031168 ≠ .nan := by decide +kernel
  have k1 := fun h => h1 ((FP.Core.fcmp_gt_key hv c1).mpr h)
  have k2 := fun h => h2 ((FP.Core.fcmp_lt_key hv c2).mpr h)
  have e1 : FP.Core.fkey 1069547520 = 1069547520 := by decide +kernel
  have e2 : FP.Core.fkey 3217031168 = -1069547520 := by decide +kernel
  rw [e1] at k1
  rw [e2] at k2
  have g1 := Int.not_lt.mp k1
  have g2 := Int.not_lt.mp k2
  unfold FP.Core.fkey at g1 g2
  have hlt : v.toNat < 2 ^ 32 := v.toNat_lt
  by_cases hs : 2 ^ 31 ≤ v.toNat
  · rw [if_pos hs] at g1 g2
    omega
  · rw [if_neg hs] at g1 g2
    omega
/-- a number as a reading may be: at most 1.5, and not -0.0 -/
def okD (x : UInt64) : Prop := x.toNat % 2 ^ 63 ≤ 4609434218613702656 ∧ x.toNat ≠ 2 ^ 63
def okF (x : UInt32) : Prop := x.toNat % 2 ^ 31 ≤ 1069547520 ∧ x.toNat ≠ 2 ^ 31
theorem okD.mg {x : UInt64} (h : okD x) : mg x 1024 := by have h1 := h.1; show x.toNat % 2 ^ 63 < 1024 * 2 ^ 52; omega
theorem okF.mf {x : UInt32} (h : okF x) : mf x 128 := by have h1 := h.1; show x.toNat % 2 ^ 31 < 128 * 2 ^ 23; omega
theorem okD_0 : okD FP.dconst0 := by unfold okD; decide
theorem okF_0 : okF FP.fconst0 := by unfold okF; decide
theorem gaft_okD {v : UInt64} (hn : vf_n64 v) : okD (gaft arD v).1 := by
  have hg : gaft arD v = if FP.dcmp v 4609434218613702656 = some .gt ∨ FP.dcmp v 13832806255468478464 = some .lt then (if FP.dcmp v FP.dconst0 = some .gt then 4609434218613702656 else 13832806255468478464, true) else (if FP.dcmp v FP.dconst0 = some .eq then FP.dconst0 else v, false) := rfl
  rw [hg]
  by_cases h : FP.dcmp v 4609434218613702656 = some .gt ∨ FP.dcmp v 13832806255468478464 = some .lt
  · rw [if_pos h]
    by_cases h2 : FP.dcmp v FP.dconst0 = some .gt
    · rw [if_pos h2]; unfold okD; decide
    · rw [if_neg h2]; unfold okD; decide
  · rw [if_neg h]
    by_cases h2 : FP.dcmp v FP.dconst0 = some .eq
    · rw [if_pos h2]; exact okD_0
    · rw [if_neg h2]
      refine ⟨mg_of15 hn (fun q => h (Or.inl q)) (fun q => h (Or.inr q)), fun q => h2 ?_⟩
      apply FP.Core.zero_iff.mpr
      rw [FP.Core.zero_bits2, q]
theorem gaft_okF {v : UInt32} (hn : vf_n32 v) : okF (gaft arF v).1 := by
  have hg : gaft arF v = if FP.fcmp v 1069547520 = some .gt ∨ FP.fcmp v 3217031168 = some .lt then (if FP.fcmp v FP.fconst0 = some .gt then 1069547520 else 3217031168, true) else (if FP.fcmp v FP.fconst0 = some .eq then FP.fconst0 else v, false) := rfl
  rw [hg]
  by_cases h : FP.fcmp v 1069547520 = some .gt ∨ FP.fcmp v 3217031168 = some .lt
  · rw [if_pos h]
    by_cases h2 : FP.fcmp v FP.fconst0 = some .gt
    · rw [if_pos h2]; unfold okF; decide
    · rw [if_neg h2]; unfold okF; decide
  · rw [if_neg h]
    by_cases h2 : FP.fcmp v FP.fconst0 = some .eq
    · rw [if_pos h2]; exact okF_0
    · rw [if_neg h2]
      refine ⟨mf_of15 hn (fun q => h (Or.inl q)) (fun q => h (Or.inr q)), fun q => h2 ?_⟩
      apply FP.Core.zero_iff32.mpr
      rw [FP.Core.zero_bits232, q]
