/-! ===== floats in doubles ===== -/
/-- as a twin rounds -/
def rndC (fl : Bool) (v : UInt64) : UInt64 := if fl = true then FP.f2d (FP.d2f v) else v
theorem rndC_f (v : UInt64) : rndC false v = v := rfl
theorem rndC_t (v : UInt64) : rndC true v = FP.f2d (FP.d2f v) := rfl
theorem rndC_nn {fl : Bool} {v : UInt64} (h : vf_n64 v) : vf_n64 (rndC fl v) := by
  cases fl with
  | false => exact h
  | true => exact f2d_nn (d2f_nn h)
theorem zv_f2d {a : UInt32} (ha : FP.Core.FFin a) : FP.Core.zval FP.Core.b64 (FP.Core.val64 (FP.f2d a)) = FP.Core.zval FP.Core.b32 (FP.Core.val32 a) * ((2 ^ 925 : Nat) : Int) := by
  obtain ⟨s, c, q, c', q', a1, a2, a3, a4, a5, a6⟩ := fq_f2d ha
  rw [← fq_jf2d ha] at a3
  have hq := (fq_fit32 a2).2.1
  rw [a1, a3]
  unfold FP.Core.zval
  show FP.Core.signed s (c' * 2 ^ (q' - FP.Core.b64.qmin).toNat) = FP.Core.signed s (c * 2 ^ (q - FP.Core.b32.qmin).toNat) * _
  rw [FP.Core.qmin_b64, FP.Core.qmin_b32, show q' - -1074 = q' + 1074 by omega, a6, show (q + 1074).toNat = (q - -149).toNat + 925 by omega, Nat.pow_add, ← Nat.mul_assoc, FP.Core.signed_mul]
theorem hF_cmp {a b : UInt32} (ha : vf_n32 a) (hb : FP.Core.FFin b) : FP.dcmp (FP.f2d a) (FP.f2d b) = FP.fcmp a b := by
  have hbd : FP.Core.DFin (FP.f2d b) := by rw [fq_jf2d hb]; exact FP.Core.f2d_fin hb
  have hna := (FP.Core.notNaN_iff32 a).mp (vn32_to ha)
  cases hv : FP.Core.val32 a with
  | nan => exact absurd hv hna
  | inf s =>
    have e1 : FP.Core.val64 (FP.f2d a) = .inf s := by
      have e0 : FP.f2d a = FP.Core.f2d a := by unfold FP.f2d; rw [vn32_to ha]; rfl
      rw [e0, FP.Core.val64_f2d, hv]; rfl
    obtain ⟨t, c, q, e2⟩ := hb
    obtain ⟨t', c', q', e3⟩ := hbd
    show FP.Core.order (FP.Core.val64 (FP.f2d a)) (FP.Core.val64 (FP.f2d b)) = FP.Core.order (FP.Core.val32 a) (FP.Core.val32 b)
    rw [e1, e3, hv, e2]; rfl
  | fin s c q =>
    have hfa : FP.Core.FFin a := ⟨s, c, q, hv⟩
    have had : FP.Core.DFin (FP.f2d a) := by rw [fq_jf2d hfa]; exact FP.Core.f2d_fin hfa
    show FP.Core.dcmp _ _ = FP.Core.fcmp _ _
    rw [FP.Core.dcmp_zval had.ne_nan hbd.ne_nan, FP.Core.fcmp_zval hna hb.ne_nan, zv_f2d hfa, zv_f2d hb, FP.Core.compare_mul_pos _ _ _ (by have := Nat.two_pow_pos 925; omega)]
theorem hF_neg {a : UInt32} (ha : FP.Core.FFin a) : FP.dneg (FP.f2d a) = FP.f2d (FP.fneg a) := by
  have hb : a.toNat % 2 ^ 31 < 255 * 2 ^ 23 := (FP.Core.fin_bits32 a).mp ha
  have hlt : a.toNat < 2 ^ 32 := a.toNat_lt
  have hm : (FP.fneg a).toNat % 2 ^ 31 = a.toNat % 2 ^ 31 := fneg_mod a
  have hb2 : (FP.fneg a).toNat % 2 ^ 31 < 255 * 2 ^ 23 := by rw [hm]; exact hb
  have hlt2 : (FP.fneg a).toNat < 2 ^ 32 := (FP.fneg a).toNat_lt
  obtain ⟨n1, s1, z1, p1, m1⟩ := f2d_bits hb
  obtain ⟨n2, s2, z2, p2, m2⟩ := f2d_bits hb2
  have hs : 2 ^ 31 ≤ (FP.fneg a).toNat ↔ ¬ 2 ^ 31 ≤ a.toNat := by
    have h2 : (FP.fneg a).toNat / 2 ^ 31 = (a.toNat / 2 ^ 31) ^^^ 1 := by
      unfold FP.fneg
      rw [UInt32.toNat_xor]
      show (a.toNat ^^^ 2 ^ 31) / 2 ^ 31 = _
      rw [Nat.xor_div_two_pow]
    by_cases g : 2 ^ 31 ≤ a.toNat
    · rw [show a.toNat / 2 ^ 31 = 1 by omega] at h2
      have h2 : (FP.fneg a).toNat / 2 ^ 31 = 0 := h2
      omega
    · rw [show a.toNat / 2 ^ 31 = 0 by omega] at h2
      have h2 : (FP.fneg a).toNat / 2 ^ 31 = 1 := h2
      omega
  rw [hm] at p2 m2
  by_cases g : 2 ^ 31 ≤ a.toNat
  · exact (p1 g).uniq (m2 (by have := hs; omega)) rfl
  · have e := (m1 (by omega)).uniq (p2 (hs.mpr g)) rfl
    rw [e]
    have h3 := s2.mpr (hs.mpr g)
    apply UInt64.toNat_inj.mp
    have h4 := dneg_hi h3
    have h5 := dneg_lo (z := FP.dneg (FP.f2d (FP.fneg a))) (by have := (FP.f2d (FP.fneg a)).toNat_lt; omega)
    omega
theorem hF_c : ∀ k : Nat, k ≤ 6 → FP.f2d (csF k) = csD k := by decide +kernel
theorem hF_cf : ∀ k : Nat, k ≤ 6 → FP.Core.FFin (csF k) := by
  intro k hk
  rw [FP.Core.fin_bits32]
  revert k; decide +kernel
theorem hF_add {a b : UInt32} (ha : FP.Core.FFin a) (hb : FP.Core.FFin b) : rndC true (FP.dadd (FP.f2d a) (FP.f2d b)) = FP.f2d (FP.fadd a b) := by rw [rndC_t, fq_add ha hb]
theorem hF_sub {a b : UInt32} (ha : FP.Core.FFin a) (hb : FP.Core.FFin b) : rndC true (FP.dsub (FP.f2d a) (FP.f2d b)) = FP.f2d (FP.fsub a b) := by rw [rndC_t, fq_sub ha hb]
theorem hF_mul {a b : UInt32} (ha : FP.Core.FFin a) (hb : FP.Core.FFin b) : rndC true (FP.dmul (FP.f2d a) (FP.f2d b)) = FP.f2d (FP.fmul a b) := by rw [rndC_t, fq_mul ha hb]
theorem hF_div {a b : UInt32} (ha : FP.Core.FFin a) (hb : FP.Core.FFin b) (hz : ¬ FP.fcmp b FP.fconst0 = some .eq) : rndC true (FP.ddiv (FP.f2d a) (FP.f2d b)) = FP.f2d (FP.fdiv a b) := by
  rw [rndC_t, fq_div ha hb (fun h => hz (FP.Core.zero_iff32.mpr h))]
/-- the numbers of a twin, in its doubles: D as they are, F as doubles -/
theorem hD_cmp {a b : UInt64} (_ha : vf_n64 a) (_hb : FP.Core.DFin b) : FP.dcmp a b = FP.dcmp a b := rfl
abbrev cvD (x : UInt64) : UInt64 := x
abbrev cvF (x : UInt32) : UInt64 := FP.f2d x
abbrev FnD (x : UInt64) : Prop := FP.Core.DFin x
abbrev FnF (x : UInt32) : Prop := FP.Core.FFin x
abbrev BdD (x : UInt64) : Prop := mg x 1024
abbrev BdF (x : UInt32) : Prop := mf x 128
theorem BdD.fn {x : UInt64} (h : BdD x) : FnD x := mg.fin h (by decide)
theorem BdF.fn {x : UInt32} (h : BdF x) : FnF x := mf.fin h (by decide)
theorem cvD_fn {x : UInt64} (h : FnD x) : FP.Core.DFin (cvD x) := h
theorem cvF_fn {x : UInt32} (h : FnF x) : FP.Core.DFin (cvF x) := by
  show FP.Core.DFin (FP.f2d x)
  rw [fq_jf2d h]; exact FP.Core.f2d_fin h
theorem cvD_nn {x : UInt64} (h : vf_n64 x) : vf_n64 (cvD x) := h
theorem cvF_nn {x : UInt32} (h : vf_n32 x) : vf_n64 (cvF x) := f2d_nn h
theorem DFin_nn {x : UInt64} (h : FP.Core.DFin x) : vf_n64 x := vn64_of h.notNaN
theorem FFin_nn {x : UInt32} (h : FP.Core.FFin x) : vf_n32 x := vn32_of h.notNaN
theorem hcD_cmp {a b : UInt64} (_ha : vf_n64 a) (_hb : FnD b) : FP.dcmp (cvD a) (cvD b) = Acm arD a b := rfl
theorem hcF_cmp {a b : UInt32} (ha : vf_n32 a) (hb : FnF b) : FP.dcmp (cvF a) (cvF b) = Acm arF a b := hF_cmp ha hb
theorem hcD_neg {a : UInt64} (_ha : FnD a) : FP.dneg (cvD a) = cvD (Aneg arD a) := rfl
theorem hcF_neg {a : UInt32} (ha : FnF a) : FP.dneg (cvF a) = cvF (Aneg arF a) := hF_neg ha
theorem hcD_c (k : Nat) (_hk : k ≤ 6) : cvD (Ac arD k) = csD k := rfl
theorem hcF_c (k : Nat) (hk : k ≤ 6) : cvF (Ac arF k) = csD k := hF_c k hk
theorem hcD_cf : ∀ k : Nat, k ≤ 6 → FnD (Ac arD k) := by
  intro k hk
  show FP.Core.DFin (csD k)
  rw [FP.Core.fin_bits]
  revert k; decide +kernel
theorem hcF_cf (k : Nat) (hk : k ≤ 6) : FnF (Ac arF k) := hF_cf k hk
theorem hcD_add {a b : UInt64} (_ha : FnD a) (_hb : FnD b) : rndC false (FP.dadd (cvD a) (cvD b)) = cvD (Aadd arD a b) := rfl
theorem hcF_add {a b : UInt32} (ha : FnF a) (hb : FnF b) : rndC true (FP.dadd (cvF a) (cvF b)) = cvF (Aadd arF a b) := hF_add ha hb
theorem hcD_sub {a b : UInt64} (_ha : FnD a) (_hb : FnD b) : rndC false (FP.dsub (cvD a) (cvD b)) = cvD (Asub arD a b) := rfl
theorem hcF_sub {a b : UInt32} (ha : FnF a) (hb : FnF b) : rndC true (FP.dsub (cvF a) (cvF b)) = cvF (Asub arF a b) := hF_sub ha hb
theorem hcD_mul {a b : UInt64} (_ha : FnD a) (_hb : FnD b) : rndC false (FP.dmul (cvD a) (cvD b)) = cvD (Amul arD a b) := rfl
theorem hcF_mul {a b : UInt32} (ha : FnF a) (hb : FnF b) : rndC true (FP.dmul (cvF a) (cvF b)) = cvF (Amul arF a b) := hF_mul ha hb
theorem hcD_div {a b : UInt64} (_ha : FnD a) (_hb : FnD b) (_hz : ¬ Acm arD b (Ac arD 0) = some .eq) : rndC false (FP.ddiv (cvD a) (cvD b)) = cvD (Adiv arD a b) := rfl
theorem hcF_div {a b : UInt32} (ha : FnF a) (hb : FnF b) (hz : ¬ Acm arF b (Ac arF 0) = some .eq) : rndC true (FP.ddiv (cvF a) (cvF b)) = cvF (Adiv arF a b) := hF_div ha hb hz
theorem nn_add2 {a b : UInt64} (ha : FP.Core.DFin a) (hb : FP.Core.DFin b) : vf_n64 (FP.dadd a b) := vn64_of (FP.Core.dadd_out ha.notNaN hb)
theorem nn_sub2 {a b : UInt64} (ha : FP.Core.DFin a) (hb : FP.Core.DFin b) : vf_n64 (FP.dsub a b) := vn64_of (FP.Core.dsub_out ha.notNaN hb)
