/-! ===== bits as numbers; lengths of steps ===== -/
theorem t64_i (v : UInt64) : v.toInt64.toInt = if v.toNat < 2 ^ 63 then (v.toNat : Int) else (v.toNat : Int) - 2 ^ 64 := by
  show v.toBitVec.toInt = _
  rw [BitVec.toInt_eq_toNat_cond]
  show (if 2 * v.toNat < 2 ^ 64 then (v.toNat : Int) else (v.toNat : Int) - ((2 ^ 64 : Nat) : Int)) = _
  by_cases g : v.toNat < 2 ^ 63
  · rw [if_pos g, if_pos (by omega)]
  · rw [if_neg g, if_neg (by omega)]; rfl
theorem rk_key (v : UInt64) : (rkL v.toInt64).toInt = FP.Core.dkey v := by
  have h := t64_i v
  have hlt : v.toNat < 2 ^ 64 := v.toNat_lt
  unfold rkL FP.Core.dkey
  by_cases g : 2 ^ 63 ≤ v.toNat
  · rw [if_neg (by omega)] at h
    have hn : v.toInt64 < 0 := by rw [Int64.lt_iff_toInt_lt, h]; show _ < (0 : Int); omega
    rw [if_pos hn, if_pos g, Int64.toInt_sub, h]
    show ((-9223372036854775808 : Int) - ((v.toNat : Int) - 2 ^ 64)).bmod (2 ^ 64) = _
    rw [Int.bmod_eq_of_le (by omega) (by omega)]
    omega
  · rw [if_pos (by omega)] at h
    have hn : ¬ v.toInt64 < 0 := by rw [Int64.lt_iff_toInt_lt, h]; show ¬ _ < (0 : Int); omega
    rw [if_neg hn, if_neg g, h]
theorem rk_gt {a b : UInt64} (ha : vf_n64 a) (hb : vf_n64 b) : rkL a.toInt64 ≤ rkL b.toInt64 ↔ ¬ FP.dcmp a b = some .gt := by
  have h1 := (FP.Core.ne_nan a).mpr (vn64.mp ha)
  have h2 := (FP.Core.ne_nan b).mpr (vn64.mp hb)
  show _ ↔ ¬ FP.Core.dcmp a b = some .gt
  rw [FP.Core.dcmp_gt_key h1 h2, Int64.le_iff_toInt_le, rk_key, rk_key]
  omega
theorem rk_lt {a b : UInt64} (ha : vf_n64 a) (hb : vf_n64 b) : rkL a.toInt64 < rkL b.toInt64 ↔ ¬ (FP.dcmp a b = some .gt ∨ FP.dcmp a b = some .eq) := by
  have h1 := (FP.Core.ne_nan a).mpr (vn64.mp ha)
  have h2 := (FP.Core.ne_nan b).mpr (vn64.mp hb)
  show _ ↔ ¬ (FP.Core.dcmp a b = some .gt ∨ FP.Core.dcmp a b = some .eq)
  rw [FP.Core.dcmp_gt_key h1 h2, FP.Core.dcmp_eq_key h1 h2, Int64.lt_iff_toInt_lt, rk_key, rk_key]
  omega
theorem le0_gt {a : UInt64} (ha : vf_n64 a) : a.toInt64 ≤ 0 ↔ ¬ FP.dcmp a FP.dconst0 = some .gt := by
  have h1 := (FP.Core.ne_nan a).mpr (vn64.mp ha)
  have c1 : FP.Core.val64 (0 : UInt64) ≠ .nan := by decide +kernel
  have e2 : FP.Core.dkey 0 = 0 := by decide +kernel
  have hlt : a.toNat < 2 ^ 64 := a.toNat_lt
  show _ ↔ ¬ FP.Core.dcmp a 0 = some .gt
  rw [FP.Core.dcmp_gt_key h1 c1, e2, Int64.le_iff_toInt_le, t64_i]
  show (if a.toNat < 2 ^ 63 then (a.toNat : Int) else (a.toNat : Int) - 2 ^ 64) ≤ 0 ↔ _
  unfold FP.Core.dkey
  by_cases g : a.toNat < 2 ^ 63
  · rw [if_pos g, if_neg (by omega)]; omega
  · rw [if_neg g, if_pos (by omega)]; omega
theorem dec_nt {p q : Prop} [Decidable p] [Decidable q] (h : p ↔ ¬ q) : decide p = !decide q := by
  by_cases g : q
  · rw [decide_eq_true g, decide_eq_false (fun z => h.mp z g)]; rfl
  · rw [decide_eq_false g, decide_eq_true (h.mpr g)]; rfl
theorem cr_bits {f : Int → UInt64} {g : Int → Int64} {s i : Int} (h1 : g (120 * s + i) = (f (120 * s + i)).toInt64 ∧ vf_n64 (f (120 * s + i))) (h2 : g (120 * s + i - 1) = (f (120 * s + i - 1)).toInt64 ∧ vf_n64 (f (120 * s + i - 1))) : crL g s i = crP f s i := by
  unfold crL crP
  rw [show s * 120 + i = 120 * s + i by omega, show s * 120 + (i - 1) = 120 * s + i - 1 by omega, h1.1, h2.1, dec_nt (le0_gt h1.2), dec_nt (le0_gt h2.2)]
  cases decide (FP.dcmp (f (120 * s + i)) FP.dconst0 = some .gt) <;> cases decide (FP.dcmp (f (120 * s + i - 1)) FP.dconst0 = some .gt) <;> rfl
theorem pk_bits {f : Int → UInt64} {g : Int → Int64} {n s i : Int} (hi : i + 1 < n) (h1 : g (120 * s + i) = (f (120 * s + i)).toInt64 ∧ vf_n64 (f (120 * s + i))) (h2 : g (120 * s + i - 1) = (f (120 * s + i - 1)).toInt64 ∧ vf_n64 (f (120 * s + i - 1))) (h3 : g (120 * s + i + 1) = (f (120 * s + i + 1)).toInt64 ∧ vf_n64 (f (120 * s + i + 1))) : pkL g n s i = pkP f s i := by
  unfold pkL pkP
  rw [show s * 120 + i = 120 * s + i by omega, show s * 120 + (i - 1) = 120 * s + i - 1 by omega, show s * 120 + (i + 1) = 120 * s + i + 1 by omega, h1.1, h2.1, h3.1, dec_nt (rk_gt h1.2 h2.2), dec_nt (rk_lt h1.2 h3.2), decide_eq_true hi]
  simp only [Bool.not_not, Bool.true_and]
theorem plc_cg {P P' : Int → Bool} {k : Int} : ∀ (f : Nat) (i n : Int), (∀ j : Int, i ≤ j → j < i + f → P j = P' j) → plc P k f i n = plc P' k f i n
  | 0, _, _, _ => rfl
  | f + 1, i, n, h => by
    have e := h i (by omega) (by omega)
    have e1 := plc_cg (P := P) (P' := P') (k := k) f (i + 1) (n + 1) (fun j a b => h j (by omega) (by omega))
    have e2 := plc_cg (P := P) (P' := P') (k := k) f (i + 1) n (fun j a b => h j (by omega) (by omega))
    show (if P i = true then (if n = k then i else plc P k f (i + 1) (n + 1)) else plc P k f (i + 1) n) = (if P' i = true then (if n = k then i else plc P' k f (i + 1) (n + 1)) else plc P' k f (i + 1) n)
    rw [e, e1, e2]
/-- a last place that is not taken may be left out -/
theorem plc_last {P : Int → Bool} {k : Int} : ∀ (f : Nat) (i n : Int), P (i + f) = false → plc P k (f + 1) i n = plc P k f i n
  | 0, i, n, h => by
    show (if P i = true then (if n = k then i else -1) else -1) = -1
    rw [show i + ((0 : Nat) : Int) = i by omega] at h
    rw [h]; rfl
  | f + 1, i, n, h => by
    have h2 : P (i + 1 + f) = false := by rw [← h]; congr 1; omega
    have e1 := plc_last (P := P) (k := k) f (i + 1) (n + 1) h2
    have e2 := plc_last (P := P) (k := k) f (i + 1) n h2
    show (if P i = true then (if n = k then i else plc P k (f + 1) (i + 1) (n + 1)) else plc P k (f + 1) (i + 1) n) = (if P i = true then (if n = k then i else plc P k f (i + 1) (n + 1)) else plc P k f (i + 1) n)
    rw [e1, e2]
theorem lenD_bits : ∀ k : Nat, k < 31 → lenD k = UInt64.ofNat ((1023 - k) * 2 ^ 52) := by decide +kernel
theorem lenD_half : ∀ k : Nat, k < 30 → FP.dmul (lenD k) 4602678819172646912 = lenD (k + 1) := by decide +kernel
theorem lenD_f : ∀ k : Nat, k < 31 → FP.f2d (FP.d2f (lenD k)) = lenD k := by decide +kernel
theorem lenD_dv {k : Nat} (hk : k < 31) {y : UInt64} (h : dv y 1 (-(k : Int))) : y = lenD k := by
  have e := lenD_bits k hk
  have t : (lenD k).toNat = (1023 - k) * 2 ^ 52 := by rw [e, UInt64.toNat_ofNat_of_lt' (by show _ < 2 ^ 64; omega)]
  have d := dv_bits (z := lenD k) rfl (by rw [t]; omega)
  rw [t, show (1023 - k) * 2 ^ 52 / 2 ^ 52 = 1023 - k by omega, show (1023 - k) * 2 ^ 52 % 2 ^ 52 = 0 by omega, if_neg (by omega), if_neg (by omega)] at d
  refine h.uniq d ?_
  rw [show (-(k : Int) + 1074).toNat = (((1023 - k : Nat) : Int) - 1075 + 1074).toNat + 52 by omega, Nat.pow_add]
  omega
section POWL
variable {σ : Hp} {Q : Option PV → Hp → Prop}
theorem cN_powL {k : Nat} (h0 : 0 < k) (hk : k ≤ 30) (hQ : Q (some (vD (lenD k))) σ) : Sp mN_powerOfHalf [vI k] σ Q := cN_powerOfHalf h0 hk (fun y hy => by rw [lenD_dv (by omega) hy]; exact hQ)
end POWL
