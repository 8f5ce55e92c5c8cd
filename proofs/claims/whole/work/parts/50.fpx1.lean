/-! ===== exact doubles ===== -/
/-- x is +c·2^q -/
def dv (x : UInt64) (c : Nat) (q : Int) : Prop := -1074 ≤ q ∧ ∃ d r, FP.Core.val64 x = .fin false d r ∧ d * 2 ^ (r + 1074).toNat = c * 2 ^ (q + 1074).toNat
theorem pow_can {A C a b : Nat} (h : A * 2 ^ a = C * 2 ^ b) : A * 2 ^ (a - b) = C * 2 ^ (b - a) := by
  rcases Nat.le_total a b with g | g
  · have e : 2 ^ b = 2 ^ (b - a) * 2 ^ a := by rw [← Nat.pow_add]; congr 1; omega
    rw [e, ← Nat.mul_assoc] at h
    have h2 := Nat.eq_of_mul_eq_mul_right (Nat.two_pow_pos a) h
    rw [show a - b = 0 by omega, Nat.pow_zero, Nat.mul_one]; exact h2
  · have e : 2 ^ a = 2 ^ (a - b) * 2 ^ b := by rw [← Nat.pow_add]; congr 1; omega
    rw [e, ← Nat.mul_assoc] at h
    have h2 := Nat.eq_of_mul_eq_mul_right (Nat.two_pow_pos b) h
    rw [show b - a = 0 by omega, Nat.pow_zero, Nat.mul_one]; exact h2
theorem dv.q {x : UInt64} {c : Nat} {q : Int} (h : dv x c q) : -1074 ≤ q := h.1
theorem dv.fin {x : UInt64} {c : Nat} {q : Int} (h : dv x c q) : FP.Core.DFin x := by
  obtain ⟨_, d, r, e, _⟩ := h; exact ⟨false, d, r, e⟩
theorem dv.nn {x : UInt64} {c : Nat} {q : Int} (h : dv x c q) : vf_n64 x := vn64_of h.fin.notNaN
theorem dv.zm {x : UInt64} {c : Nat} {q : Int} (h : dv x c q) : FP.Core.zmag FP.Core.b64 (FP.Core.val64 x) = c * 2 ^ (q + 1074).toNat := by
  obtain ⟨_, d, r, e, h2⟩ := h
  rw [e, ← h2]
  show d * 2 ^ (r - FP.Core.b64.qmin).toNat = _
  rw [FP.Core.qmin_b64, show r - -1074 = r + 1074 by omega]
theorem dv.sg {x : UInt64} {c : Nat} {q : Int} (h : dv x c q) : FP.Core.sgn (FP.Core.val64 x) = false := by
  obtain ⟨_, d, r, e, h2⟩ := h
  rw [e]; rfl
theorem dv.zv {x : UInt64} {c : Nat} {q : Int} (h : dv x c q) : FP.Core.zval FP.Core.b64 (FP.Core.val64 x) = ((c * 2 ^ (q + 1074).toNat : Nat) : Int) := by
  unfold FP.Core.zval
  rw [h.sg, h.zm]; rfl
theorem dv.lt63 {x : UInt64} {c : Nat} {q : Int} (h : dv x c q) : x.toNat < 2 ^ 63 := by
  have := FP.Core.sgn_bits h.fin.ne_nan
  rw [h.sg] at this
  have := of_decide_eq_false this.symm
  omega
theorem dv.un {x : UInt64} {c : Nat} {q : Int} (h : dv x c q) : FP.Core.unitsOf FP.Core.b64 x.toNat = c * 2 ^ (q + 1074).toNat := by
  have h1 := FP.Core.zmag_bits h.fin.ne_nan
  rw [h.zm, Nat.mod_eq_of_lt h.lt63] at h1
  exact h1.symm
theorem unitsOf_inj {f : FP.Core.Fmt} {a b : Nat} (h : FP.Core.unitsOf f a = FP.Core.unitsOf f b) : a = b := by
  have h1 := (FP.Core.unitsOf_le_iff (f := f) (m := a) (k := b)).mp (by omega)
  have h2 := (FP.Core.unitsOf_le_iff (f := f) (m := b) (k := a)).mp (by omega)
  omega
theorem dv.uniq {x y : UInt64} {c d : Nat} {q r : Int} (h : dv x c q) (h2 : dv y d r) (e : c * 2 ^ (q + 1074).toNat = d * 2 ^ (r + 1074).toNat) : x = y := by
  apply UInt64.toNat_inj.mp
  apply unitsOf_inj (f := FP.Core.b64)
  rw [h.un, h2.un, e]
theorem dv.cg {x : UInt64} {c d : Nat} {q r : Int} (h : dv x c q) (hr : -1074 ≤ r) (e : c * 2 ^ (q + 1074).toNat = d * 2 ^ (r + 1074).toNat) : dv x d r := by
  obtain ⟨_, a, b, e1, h2⟩ := h
  exact ⟨hr, a, b, e1, h2.trans e⟩
theorem dv_rnd {x : UInt64} {c : Nat} {q : Int} (h : FP.Core.val64 x = FP.Core.round FP.Core.b64 (.fin false c q)) (hc : c < 2 ^ 53) (h1 : -1074 ≤ q) (h2 : q ≤ 971) : dv x c q := by
  obtain ⟨c', q', e1, e2⟩ := FP.Core.round_exact FP.Core.good_b64 false (c := c) (q := q) hc (by rw [FP.Core.qmin_b64]; exact h1) (by exact h2)
  rw [e1] at h
  refine ⟨h1, c', q', h, ?_⟩
  unfold FP.Core.inUnits at e2
  rw [FP.Core.qmin_b64, show q' - -1074 = q' + 1074 by omega, show q - -1074 = q + 1074 by omega] at e2
  exact e2
theorem dv_pos {x : UInt64} {c : Nat} {q : Int} (h : dv x c q) (hc : 0 < c) : 0 < x.toNat := by
  rcases Nat.eq_zero_or_pos x.toNat with z | z
  · have := h.un
    rw [z, FP.Core.unitsOf_zero] at this
    have := Nat.mul_pos hc (Nat.two_pow_pos (q + 1074).toNat)
    omega
  · exact z
theorem dv_mul {x y : UInt64} {c : Nat} {q k : Int} (h : dv x c q) (hy : dv y 1 k) (hc : c < 2 ^ 53) (h1 : -1074 ≤ q + k) (h2 : q + k ≤ 971) : dv (FP.dmul x y) c (q + k) := by
  obtain ⟨hq, d, r, e1, e2⟩ := h
  obtain ⟨hk, d2, r2, f1, f2⟩ := hy
  have fx : FP.Core.fits FP.Core.b64 (.fin false d r) := e1 ▸ FP.Core.val64_fits x
  have fy : FP.Core.fits FP.Core.b64 (.fin false d2 r2) := f1 ▸ FP.Core.val64_fits y
  have hr : (-1074 : Int) ≤ r := fx.2.1
  have hr2 : (-1074 : Int) ≤ r2 := fy.2.1
  refine dv_rnd ?_ hc h1 h2
  show FP.Core.val64 (FP.Core.dmul x y) = _
  rw [FP.Core.val64_dmul, e1, f1]
  show FP.Core.roundRatio FP.Core.b64 false (d * d2) 1 (r + r2) = FP.Core.roundRatio FP.Core.b64 false c 1 (q + k)
  refine FP.Core.roundRatio_congr (by decide) (by decide) ?_
  have e3 : d * d2 * 2 ^ ((r + 1074).toNat + (r2 + 1074).toNat) = c * 2 ^ ((q + 1074).toNat + (k + 1074).toNat) := by
    rw [Nat.pow_add, Nat.pow_add]
    calc d * d2 * (2 ^ (r + 1074).toNat * 2 ^ (r2 + 1074).toNat) = (d * 2 ^ (r + 1074).toNat) * (d2 * 2 ^ (r2 + 1074).toNat) := by
          rw [Nat.mul_assoc, Nat.mul_assoc, Nat.mul_left_comm d2]
      _ = (c * 2 ^ (q + 1074).toNat) * (1 * 2 ^ (k + 1074).toNat) := by rw [e2, f2]
      _ = c * (2 ^ (q + 1074).toNat * 2 ^ (k + 1074).toNat) := by rw [Nat.one_mul, Nat.mul_assoc]
  have e4 := pow_can e3
  rw [Nat.mul_one, Nat.mul_one]
  have a1 : (r + r2 - (q + k)).toNat = (r + 1074).toNat + (r2 + 1074).toNat - ((q + 1074).toNat + (k + 1074).toNat) := by omega
  have a2 : (q + k - (r + r2)).toNat = (q + 1074).toNat + (k + 1074).toNat - ((r + 1074).toNat + (r2 + 1074).toNat) := by omega
  rw [a1, a2]
  exact e4
theorem dv_div {x y : UInt64} {c : Nat} {q k : Int} (h : dv x c q) (hy : dv y 1 k) (hc : c < 2 ^ 53) (h1 : -1074 ≤ q - k) (h2 : q - k ≤ 971) : dv (FP.ddiv x y) c (q - k) := by
  obtain ⟨hq, d, r, e1, e2⟩ := h
  obtain ⟨hk, d2, r2, f1, f2⟩ := hy
  have fx : FP.Core.fits FP.Core.b64 (.fin false d r) := e1 ▸ FP.Core.val64_fits x
  have fy : FP.Core.fits FP.Core.b64 (.fin false d2 r2) := f1 ▸ FP.Core.val64_fits y
  have hr : (-1074 : Int) ≤ r := fx.2.1
  have hr2 : (-1074 : Int) ≤ r2 := fy.2.1
  have hd2 : 0 < d2 := by
    rcases Nat.eq_zero_or_pos d2 with z | z
    · rw [z, Nat.zero_mul, Nat.one_mul] at f2
      have := Nat.two_pow_pos (k + 1074).toNat
      omega
    · exact z
  refine dv_rnd ?_ hc h1 h2
  show FP.Core.val64 (FP.Core.ddiv x y) = _
  rw [FP.Core.val64_ddiv, e1, f1]
  show (if d2 = 0 then (if d = 0 then FP.Core.Datum.nan else FP.Core.Datum.inf (false != false)) else FP.Core.roundRatio FP.Core.b64 (false != false) d d2 (r - r2)) = FP.Core.roundRatio FP.Core.b64 false c 1 (q - k)
  rw [if_neg (by omega)]
  show FP.Core.roundRatio FP.Core.b64 false d d2 (r - r2) = _
  refine FP.Core.roundRatio_congr hd2 (by decide) ?_
  rw [Nat.one_mul] at f2
  have e3 : d * 2 ^ ((r + 1074).toNat + (k + 1074).toNat) = c * d2 * 2 ^ ((q + 1074).toNat + (r2 + 1074).toNat) := by
    rw [Nat.pow_add, Nat.pow_add]
    calc d * (2 ^ (r + 1074).toNat * 2 ^ (k + 1074).toNat) = (d * 2 ^ (r + 1074).toNat) * 2 ^ (k + 1074).toNat := by rw [Nat.mul_assoc]
      _ = (c * 2 ^ (q + 1074).toNat) * (d2 * 2 ^ (r2 + 1074).toNat) := by rw [e2, ← f2]
      _ = c * d2 * (2 ^ (q + 1074).toNat * 2 ^ (r2 + 1074).toNat) := by rw [Nat.mul_assoc, Nat.mul_assoc, Nat.mul_left_comm d2]
  have e4 := pow_can e3
  rw [Nat.mul_one]
  have a1 : (r - r2 - (q - k)).toNat = (r + 1074).toNat + (k + 1074).toNat - ((q + 1074).toNat + (r2 + 1074).toNat) := by omega
  have a2 : (q - k - (r - r2)).toNat = (q + 1074).toNat + (r2 + 1074).toNat - ((r + 1074).toNat + (k + 1074).toNat) := by omega
  rw [a1, a2]
  exact e4
theorem dv_l2d {n : Nat} (h : n < 2 ^ 53) : dv (FP.l2d (lN n)) n 0 := by
  refine dv_rnd ?_ h (by decide) (by decide)
  show FP.Core.val64 (FP.Core.l2d (lN n)) = _
  rw [FP.Core.val64_l2d, pf_lI (by omega)]
  unfold FP.Core.ofInt
  rw [decide_eq_false (by omega)]
  rfl
theorem dv_l2d' {n : Nat} (h : n ≤ 2 ^ 53) : dv (FP.l2d (lN n)) n 0 := by
  rcases Nat.lt_or_eq_of_le h with g | g
  · exact dv_l2d g
  · subst g
    refine ⟨by decide, 2 ^ 52, 1, by decide +kernel, by decide +kernel⟩
theorem dv_lt {x y : UInt64} {c d : Nat} {q r : Int} (h : dv x c q) (h2 : dv y d r) : FP.dcmp x y = some .lt ↔ c * 2 ^ (q + 1074).toNat < d * 2 ^ (r + 1074).toNat := by
  show FP.Core.dcmp x y = _ ↔ _
  rw [FP.Core.dcmp_lt, h.zv, h2.zv]
  constructor
  · intro g; omega
  · intro g; exact ⟨h.fin.ne_nan, h2.fin.ne_nan, by omega⟩
theorem dv_gt {x y : UInt64} {c d : Nat} {q r : Int} (h : dv x c q) (h2 : dv y d r) : FP.dcmp x y = some .gt ↔ d * 2 ^ (r + 1074).toNat < c * 2 ^ (q + 1074).toNat := by
  show FP.Core.dcmp x y = _ ↔ _
  rw [FP.Core.dcmp_gt, h.zv, h2.zv]
  constructor
  · intro g; omega
  · intro g; exact ⟨h.fin.ne_nan, h2.fin.ne_nan, by omega⟩
theorem dv_eq {x y : UInt64} {c d : Nat} {q r : Int} (h : dv x c q) (h2 : dv y d r) : FP.dcmp x y = some .eq ↔ c * 2 ^ (q + 1074).toNat = d * 2 ^ (r + 1074).toNat := by
  show FP.Core.dcmp x y = _ ↔ _
  rw [FP.Core.dcmp_eq, h.zv, h2.zv]
  constructor
  · intro g; omega
  · intro g; exact ⟨h.fin.ne_nan, h2.fin.ne_nan, by omega⟩
theorem dv_d2l {x : UInt64} {c : Nat} {q : Int} (h : dv x c q) (hc : c * 2 ^ (q + 1074).toNat / 2 ^ 1074 < 2 ^ 63) : FP.d2l x = lN (c * 2 ^ (q + 1074).toNat / 2 ^ 1074) := by
  apply Int64.toInt_inj.mp
  show (FP.Core.d2l x).toInt = _
  rw [FP.Core.d2l_val h.fin.ne_nan, h.sg, h.zm, pf_lI hc]
  have e : FP.Core.one64 = 2 ^ 1074 := by decide +kernel
  rw [e]
  show max (-2 ^ 63) (min (2 ^ 63 - 1) ((c * 2 ^ (q + 1074).toNat / 2 ^ 1074 : Nat) : Int)) = _
  omega
theorem dv_c0 : dv FP.dconst0 0 0 := ⟨by decide, 0, -1074, by decide +kernel, by decide +kernel⟩
theorem dv_c1 : dv FP.dconst1 1 0 := ⟨by decide, 2 ^ 52, -52, by decide +kernel, by decide +kernel⟩
theorem dv_h : dv 4602678819172646912 1 (-1) := ⟨by decide, 2 ^ 52, -53, by decide +kernel, by decide +kernel⟩
theorem dv_q : dv 4598175219545276416 1 (-2) := ⟨by decide, 2 ^ 52, -54, by decide +kernel, by decide +kernel⟩
theorem dv_2 : dv 4611686018427387904 1 1 := ⟨by decide, 2 ^ 52, -51, by decide +kernel, by decide +kernel⟩
theorem dv_4 : dv 4616189618054758400 1 2 := ⟨by decide, 2 ^ 52, -50, by decide +kernel, by decide +kernel⟩
theorem dv_p32 : dv 4751297606875873280 1 32 := ⟨by decide, 2 ^ 52, -20, by decide +kernel, by decide +kernel⟩
theorem dv_m32 : dv 4463067230724161536 1 (-32) := ⟨by decide, 2 ^ 52, -84, by decide +kernel, by decide +kernel⟩
theorem dv_m16 : dv 4535124824762089472 1 (-16) := ⟨by decide, 2 ^ 52, -68, by decide +kernel, by decide +kernel⟩
theorem dv_p52 : dv 4841369599423283200 1 52 := ⟨by decide, 2 ^ 52, 0, by decide +kernel, by decide +kernel⟩
theorem dv_p53 : dv 4845873199050653696 1 53 := ⟨by decide, 2 ^ 52, 1, by decide +kernel, by decide +kernel⟩
/-- a positive number, as it is written -/
theorem dv_of {x : UInt64} {c : Nat} {q : Int} (h : FP.Core.val64 x = .fin false c q) : dv x c q := by
  have fx : FP.Core.fits FP.Core.b64 (.fin false c q) := h ▸ FP.Core.val64_fits x
  exact ⟨fx.2.1, c, q, h, rfl⟩
/-- 2^-p, as the loop of halves makes it -/
def hvN : Nat → UInt64
  | 0 => 4602678819172646912
  | i + 1 => FP.dmul (hvN i) (hvN i)
def dbN : Nat → UInt64
  | 0 => 4611686018427387904
  | i + 1 => FP.dmul (dbN i) (dbN i)
theorem hvN_dv : ∀ i : Nat, i ≤ 10 → dv (hvN i) 1 (-((2 ^ i : Nat) : Int))
  | 0, _ => dv_h
  | i + 1, h => by
    have ih := hvN_dv i (by omega)
    have hp : 2 ^ i ≤ 2 ^ 9 := Nat.pow_le_pow_right (by decide) (by omega)
    rw [Nat.pow_succ]
    show dv (FP.dmul (hvN i) (hvN i)) _ _
    obtain ⟨P, hP⟩ : ∃ P, P = 2 ^ i := ⟨_, rfl⟩
    rw [← hP] at ih hp ⊢
    have e : -((P * 2 : Nat) : Int) = -(P : Int) + -(P : Int) := by omega
    rw [e]
    exact dv_mul ih ih (by decide) (by omega) (by omega)
theorem dbN_dv : ∀ i : Nat, i ≤ 9 → dv (dbN i) 1 ((2 ^ i : Nat) : Int)
  | 0, _ => dv_2
  | i + 1, h => by
    have ih := dbN_dv i (by omega)
    have hp : 2 ^ i ≤ 2 ^ 8 := Nat.pow_le_pow_right (by decide) (by omega)
    rw [Nat.pow_succ]
    show dv (FP.dmul (dbN i) (dbN i)) _ _
    obtain ⟨P, hP⟩ : ∃ P, P = 2 ^ i := ⟨_, rfl⟩
    rw [← hP] at ih hp ⊢
    have e : ((P * 2 : Nat) : Int) = (P : Int) + (P : Int) := by omega
    rw [e]
    exact dv_mul ih ih (by decide) (by omega) (by omega)
theorem hvN_nn : ∀ i : Nat, i ≤ 11 → vf_n64 (hvN i) := by
  intro i h
  rcases Nat.lt_or_ge i 11 with g | g
  · exact (hvN_dv i (by omega)).nn
  · have e : i = 11 := by omega
    subst e
    have h10 := hvN_dv 10 (by decide)
    exact vn64_of (FP.Core.dmul_out h10.fin h10.fin)
theorem dbN_10 : dbN 10 = 9218868437227405312 := by decide +kernel
theorem dbN_11 : dbN 11 = 9218868437227405312 := by
  show FP.dmul (dbN 10) (dbN 10) = _
  rw [dbN_10]; decide +kernel
theorem dbN_nn : ∀ i : Nat, i ≤ 11 → vf_n64 (dbN i) := by
  intro i h
  rcases Nat.lt_or_ge i 10 with g | g
  · exact (dbN_dv i (by omega)).nn
  · rcases Nat.lt_or_ge i 11 with g2 | g2
    · have e : i = 10 := by omega
      subst e
      rw [dbN_10]; unfold vf_n64; decide
    · have e : i = 11 := by omega
      subst e
      rw [dbN_11]; unfold vf_n64; decide
