/-! ===== sizes of doubles and floats; no NaN ===== -/
def mg (x : UInt64) (K : Nat) : Prop := x.toNat % 2 ^ 63 < K * 2 ^ 52
def mf (x : UInt32) (K : Nat) : Prop := x.toNat % 2 ^ 31 < K * 2 ^ 23
theorem vn64 {r : UInt64} : vf_n64 r ↔ r.toNat % 2 ^ 63 ≤ 9218868437227405312 := by
  unfold vf_n64
  rw [UInt64.le_iff_toNat_le, FP.Core.mask_toNat]
  rfl
theorem vn32 {r : UInt32} : vf_n32 r ↔ r.toNat % 2 ^ 31 ≤ 2139095040 := by
  unfold vf_n32
  rw [UInt32.le_iff_toNat_le, FP.Core.mask_toNat32]
  rfl
theorem vn64_of {r : UInt64} (h : FP.Core.dIsNaN r = false) : vf_n64 r := vn64.mpr ((FP.Core.ne_nan r).mp ((FP.Core.notNaN_iff r).mp h))
theorem vn64_to {r : UInt64} (h : vf_n64 r) : FP.Core.dIsNaN r = false := (FP.Core.notNaN_iff r).mpr ((FP.Core.ne_nan r).mpr (vn64.mp h))
theorem vn32_of {r : UInt32} (h : FP.Core.fIsNaN r = false) : vf_n32 r := vn32.mpr ((FP.Core.ne_nan32 r).mp ((FP.Core.notNaN_iff32 r).mp h))
theorem vn32_to {r : UInt32} (h : vf_n32 r) : FP.Core.fIsNaN r = false := (FP.Core.notNaN_iff32 r).mpr ((FP.Core.ne_nan32 r).mpr (vn32.mp h))
theorem mg.fin {x : UInt64} {K : Nat} (h : mg x K) (hK : K ≤ 2047) : FP.Core.DFin x := FP.Core.fin_of_lt h hK
theorem mf.fin {x : UInt32} {K : Nat} (h : mf x K) (hK : K ≤ 255) : FP.Core.FFin x := FP.Core.fin_of_lt32 h hK
theorem mg.nn {x : UInt64} {K : Nat} (h : mg x K) (hK : K ≤ 2047) : vf_n64 x := vn64_of (h.fin hK).notNaN
theorem mf.nn {x : UInt32} {K : Nat} (h : mf x K) (hK : K ≤ 255) : vf_n32 x := vn32_of (h.fin hK).notNaN
theorem mg.mono {x : UInt64} {K L : Nat} (h : mg x K) (hK : K ≤ L) : mg x L := Nat.lt_of_lt_of_le h (Nat.mul_le_mul_right _ hK)
theorem mf.mono {x : UInt32} {K L : Nat} (h : mf x K) (hK : K ≤ L) : mf x L := Nat.lt_of_lt_of_le h (Nat.mul_le_mul_right _ hK)
theorem mg_add {a b : UInt64} {K : Nat} (ha : mg a K) (hb : mg b K) (hK : K ≤ 2047) : mg (FP.dadd a b) (K + 2) := FP.Core.dadd_mag ha hb hK
theorem mg_sub {a b : UInt64} {K : Nat} (ha : mg a K) (hb : mg b K) (hK : K ≤ 2047) : mg (FP.dsub a b) (K + 2) := FP.Core.dsub_mag ha hb hK
theorem mg_mul {a b : UInt64} {K L : Nat} (ha : mg a K) (hb : mg b L) (hK : K ≤ 2047) (hL : L ≤ 2047) : mg (FP.dmul a b) (K + L - 1025 + 3) := FP.Core.dmul_mag ha hb hK hL
theorem mf_add {a b : UInt32} {K : Nat} (ha : mf a K) (hb : mf b K) (hK : K ≤ 255) : mf (FP.fadd a b) (K + 2) := FP.Core.fadd_mag ha hb hK
theorem mf_sub {a b : UInt32} {K : Nat} (ha : mf a K) (hb : mf b K) (hK : K ≤ 255) : mf (FP.fsub a b) (K + 2) := FP.Core.fsub_mag ha hb hK
theorem dneg_mod (x : UInt64) : (FP.dneg x).toNat % 2 ^ 63 = x.toNat % 2 ^ 63 := by
  unfold FP.dneg
  rw [UInt64.toNat_xor]
  show (x.toNat ^^^ 2 ^ 63) % 2 ^ 63 = _
  rw [Nat.xor_mod_two_pow]
  simp
theorem fneg_mod (x : UInt32) : (FP.fneg x).toNat % 2 ^ 31 = x.toNat % 2 ^ 31 := by
  unfold FP.fneg
  rw [UInt32.toNat_xor]
  show (x.toNat ^^^ 2 ^ 31) % 2 ^ 31 = _
  rw [Nat.xor_mod_two_pow]
  simp
theorem mg_neg {a : UInt64} {K : Nat} (ha : mg a K) : mg (FP.dneg a) K := by unfold mg; rw [dneg_mod]; exact ha
theorem mf_neg {a : UInt32} {K : Nat} (ha : mf a K) : mf (FP.fneg a) K := by unfold mf; rw [fneg_mod]; exact ha
theorem nn_div {a b : UInt64} (ha : FP.Core.DFin a) (hb : FP.Core.DFin b) (hz : ¬ FP.dcmp b FP.dconst0 = some .eq) : vf_n64 (FP.ddiv a b) := vn64_of (FP.Core.ddiv_out ha.notNaN hb (fun h => hz (FP.Core.zero_iff.mpr h)))
theorem nnf_div {a b : UInt32} (ha : FP.Core.FFin a) (hb : FP.Core.FFin b) (hz : ¬ FP.fcmp b FP.fconst0 = some .eq) : vf_n32 (FP.fdiv a b) := vn32_of (FP.Core.fdiv_out ha.notNaN hb (fun h => hz (FP.Core.zero_iff32.mpr h)))
theorem d2f_nn {x : UInt64} (h : vf_n64 x) : vf_n32 (FP.d2f x) := by
  have h1 := vn64_to h
  rw [fq_jd2f h1]
  exact vn32_of (FP.Core.d2f_out h1)
theorem f2d_nn {x : UInt32} (h : vf_n32 x) : vf_n64 (FP.f2d x) := by
  have h1 := vn32_to h
  unfold FP.f2d
  rw [h1]
  exact vn64_of (FP.Core.f2d_out h1)
/-- Booleans as answers -/
theorem Q_b1 {Q : Option PV → Hp → Prop} {σ : Hp} {p : Prop} [Decidable p] (h : Q (some (vI (bI (decide p)))) σ) (hp : p) : Q (some (vI 1)) σ := by
  rw [decide_eq_true hp] at h; exact h
theorem Q_b0 {Q : Option PV → Hp → Prop} {σ : Hp} {p : Prop} [Decidable p] (h : Q (some (vI (bI (decide p)))) σ) (hp : ¬ p) : Q (some (vI 0)) σ := by
  rw [decide_eq_false hp] at h; exact h
/-! ===== the panel's reckoning, over any numbers ===== -/
/-- add, sub, mul, div, neg, root, order, the constants 0.0, 1.0, -1.0, 1.5, -1.5, 2.0, 6.0 -/
abbrev Ar (α : Type) : Type := (α → α → α) × (α → α → α) × (α → α → α) × (α → α → α) × (α → α) × (α → α) × (α → α → Option Ordering) × (Nat → α)
section GEN
variable {α : Type}
def Aadd (A : Ar α) : α → α → α := A.1
def Asub (A : Ar α) : α → α → α := A.2.1
def Amul (A : Ar α) : α → α → α := A.2.2.1
def Adiv (A : Ar α) : α → α → α := A.2.2.2.1
def Aneg (A : Ar α) : α → α := A.2.2.2.2.1
def Art (A : Ar α) : α → α := A.2.2.2.2.2.1
def Acm (A : Ar α) : α → α → Option Ordering := A.2.2.2.2.2.2.1
def Ac (A : Ar α) : Nat → α := A.2.2.2.2.2.2.2
/-- IN i -/
def gin (A : Ar α) (fr tu : Int → Int) (r : Int → α) (m i : Int) : α := if tu (6 * m + i) = 0 then r (fr (6 * m + i)) else Aneg A (r (fr (6 * m + i)))
/-- THE SUM, of the inputs below i; and whether there was none -/
def gsum (A : Ar α) (fr tu : Int → Int) (r : Int → α) (m : Int) : Nat → α × Bool
  | 0 => (Ac A 0, true)
  | i + 1 => if fr (6 * m + (i : Int)) = -1 then gsum A fr tu r m i else (if (gsum A fr tu r m i).2 then gin A fr tu r m i else Aadd A (gsum A fr tu r m i).1 (gin A fr tu r m i), false)
/-- IN i, or 0.0 without a cord -/
def ga (A : Ar α) (fr tu : Int → Int) (r : Int → α) (m i : Int) : α := if fr (6 * m + i) = -1 then Ac A 0 else gin A fr tu r m i
/-- AFTER v, and whether the lamp lights -/
def gaft (A : Ar α) (v : α) : α × Bool := if Acm A v (Ac A 3) = some .gt ∨ Acm A v (Ac A 4) = some .lt then (if Acm A v (Ac A 0) = some .gt then Ac A 3 else Ac A 4, true) else (if Acm A v (Ac A 0) = some .eq then Ac A 0 else v, false)
def gfk (A : Ar α) (xs : Int → α) (a : α) : Nat → Int → Int
  | 0, k => k
  | n + 1, k => if Acm A (xs (k + 1)) a = some .lt ∨ Acm A (xs (k + 1)) a = some .eq then gfk A xs a n (k + 1) else k
def gtab (A : Ar α) (xs ys : Int → α) (np : Int) (m : Int) (a : α) : α :=
  if Acm A a (xs (8 * m)) = some .lt ∨ Acm A a (xs (8 * m)) = some .eq then ys (8 * m)
  else if Acm A a (xs (8 * m + np - 1)) = some .gt ∨ Acm A a (xs (8 * m + np - 1)) = some .eq then ys (8 * m + np - 1)
  else Aadd A (Adiv A (Amul A (Asub A a (xs (gfk A xs a 8 (8 * m)))) (Asub A (ys (gfk A xs a 8 (8 * m) + 1)) (ys (gfk A xs a 8 (8 * m))))) (Asub A (xs (gfk A xs a 8 (8 * m) + 1)) (xs (gfk A xs a 8 (8 * m))))) (ys (gfk A xs a 8 (8 * m)))
end GEN
