/-! ===== Newton's root: one step, in units of 2^-54 ===== -/
theorem newton {n k R P Dm : Int} (hn : 0 < n) (hP1 : R * R ≤ P) (hP2 : P < (R + 1) * (R + 1)) (hk1 : k * n ≤ P + 32 * n) (hk2 : P ≤ k * n + 32 * n) (h4 : 2 * R + 1 ≤ 4 * n) (hd : (n - R) * (n - R) ≤ Dm * n) : -32 ≤ n + k - 2 * R ∧ n + k - 2 * R ≤ Dm + 36 := by
  have e1 : (n - R) * (n - R) = n * n - 2 * (R * n) + R * R := by
    rw [Int.sub_mul, Int.mul_sub, Int.mul_sub, Int.mul_comm n R]; omega
  have e2 : (R + 1) * (R + 1) = R * R + 2 * R + 1 := by
    rw [Int.add_mul, Int.mul_add]; omega
  have e3 : (n + k - 2 * R) * n = n * n + k * n - 2 * (R * n) := by
    rw [Int.sub_mul, Int.add_mul, Int.mul_assoc]
  have sq : 0 ≤ (n - R) * (n - R) := by
    rcases Int.le_total 0 (n - R) with g | g
    · exact Int.mul_nonneg g g
    · exact Int.mul_nonneg_of_nonpos_of_nonpos g g
  have lo : -32 * n ≤ (n + k - 2 * R) * n := by rw [e3]; rw [e1] at sq; omega
  have hi : (n + k - 2 * R) * n < (Dm + 37) * n := by
    have e4 : (Dm + 37) * n = Dm * n + 37 * n := Int.add_mul ..
    rw [e3, e4]
    rw [e1] at hd
    rw [e2] at hP2
    omega
  have lo2 := Int.le_of_mul_le_mul_right lo hn
  have hi2 := Int.lt_of_mul_lt_mul_right hi (Int.le_of_lt hn)
  omega
theorem sq_le {d B : Int} (h1 : -B ≤ d) (h2 : d ≤ B) : d * d ≤ B * B := by
  rcases Int.le_total 0 d with g | g
  · exact Int.mul_le_mul h2 h2 g (by omega)
  · have := Int.mul_le_mul (a := -d) (b := -d) (c := B) (d := B) (by omega) (by omega) (by omega) (by omega)
    rw [Int.neg_mul_neg] at this
    exact this
/-- what is rounded between 1/4 and 15, in units of 2^-54 -/
theorem rnd_near {x : UInt64} {U B : Nat} (hB : 0 < B) (hv : FP.Core.val64 x = FP.Core.roundRatio FP.Core.b64 false U B (-1074)) (h1 : 2 ^ 1072 * B ≤ U) (h2 : U ≤ 15 * 2 ^ 1074 * B) : ∃ n, dv x n (-54) ∧ n * 2 ^ 1020 * B ≤ U + 32 * 2 ^ 1020 * B ∧ U ≤ (n + 32) * 2 ^ 1020 * B ∧ 2 ^ 52 ≤ n := by
  obtain ⟨c, r, e1, e2, e3, e4⟩ := fq_fin false (k1 := 1072) (k2 := 1078) hB (by decide) (by decide) h1 (by
    have : 15 * 2 ^ 1074 ≤ 2 ^ 1078 := by decide +kernel
    exact Nat.le_trans h2 (Nat.mul_le_mul_right _ this))
  have hX1 := fq_ge (h := 1) (k := 1072) hB e1 (by decide) (by decide) (by rw [Nat.one_mul]; exact h1)
  rw [Nat.one_mul] at hX1
  obtain ⟨G, hG⟩ : ∃ G, G = 2 ^ 1025 * B := ⟨_, rfl⟩
  have hG0 : 0 < G := by rw [hG]; exact Nat.mul_pos (Nat.two_pow_pos _) hB
  have hm := Nat.div_add_mod U G
  have hml := Nat.mod_lt U hG0
  obtain ⟨h, hh⟩ : ∃ h, h = U / G := ⟨_, rfl⟩
  rw [← hh] at hm
  have hhb : h ≤ 15 * 2 ^ 49 := by
    rw [hh]
    apply Nat.div_le_of_le_mul
    rw [hG]
    have : 2 ^ 1025 * B * (15 * 2 ^ 49) = 15 * 2 ^ 1074 * B := by
      rw [Nat.mul_right_comm, show (2 : Nat) ^ 1025 * (15 * 2 ^ 49) = 15 * 2 ^ 1074 by decide +kernel]
    rw [this]; exact h2
  have hlo := fq_ge (h := h) (k := 1025) hB e1 (by omega) (by decide) (by
    rw [Nat.mul_assoc, ← hG, Nat.mul_comm]; omega)
  have hhi := fq_le (h := h + 1) (k := 1025) hB e1 (by omega) (by decide) (by
    rw [Nat.mul_assoc, ← hG, Nat.add_mul, Nat.one_mul, Nat.mul_comm]; omega)
  have hX : FP.Core.inUnits c r (-1074) = c * 2 ^ (r + 1074).toNat := by
    unfold FP.Core.inUnits; rw [show r - -1074 = r + 1074 by omega]
  rw [hX] at hX1 hlo hhi
  have hc : c < 2 ^ 53 := e2.1
  have hr : 1020 ≤ (r + 1074).toNat := by
    rcases Nat.lt_or_ge (r + 1074).toNat 1020 with z | z
    · exfalso
      have a1 : 2 ^ (r + 1074).toNat ≤ 2 ^ 1019 := Nat.pow_le_pow_right (by decide) (by omega)
      have a2 : c * 2 ^ (r + 1074).toNat < 2 ^ 53 * 2 ^ 1019 := Nat.lt_of_le_of_lt (Nat.mul_le_mul_left c a1) (Nat.mul_lt_mul_of_pos_right hc (Nat.two_pow_pos _))
      rw [← Nat.pow_add] at a2
      exact absurd hX1 (Nat.not_le.mpr a2)
    · exact z
  obtain ⟨n, hn⟩ : ∃ n, n = c * 2 ^ ((r + 1074).toNat - 1020) := ⟨_, rfl⟩
  have hn2 : n * 2 ^ 1020 = c * 2 ^ (r + 1074).toNat := by
    rw [hn, Nat.mul_assoc, ← Nat.pow_add, Nat.sub_add_cancel hr]
  rw [← hn2] at hX1 hlo hhi
  have hG2 : G = 32 * (2 ^ 1020 * B) := by
    rw [hG, ← Nat.mul_assoc, show (2 : Nat) ^ 1025 = 32 * 2 ^ 1020 by decide +kernel]
  refine ⟨n, ⟨by decide, c, r, hv.trans e1, ?_⟩, ?_, ?_, ?_⟩
  · rw [← hn2]; rfl
  · have := Nat.mul_le_mul_right B hhi
    have e5 : (h + 1) * 2 ^ 1025 * B = G * h + G := by rw [Nat.mul_assoc, ← hG, Nat.add_mul, Nat.one_mul, Nat.mul_comm]
    rw [e5] at this
    rw [Nat.mul_assoc 32, ← hG2]
    omega
  · have := Nat.mul_le_mul_right B hlo
    have e5 : h * 2 ^ 1025 * B = G * h := by rw [Nat.mul_assoc, ← hG, Nat.mul_comm]
    rw [e5] at this
    have e6 : (n + 32) * 2 ^ 1020 * B = n * 2 ^ 1020 * B + G := by rw [Nat.add_mul, Nat.add_mul, Nat.mul_assoc 32, ← hG2]
    rw [e6]
    omega
  · have : 2 ^ 1072 = 2 ^ 52 * 2 ^ 1020 := by rw [← Nat.pow_add]
    rw [this] at hX1
    exact Nat.le_of_mul_le_mul_right hX1 (Nat.two_pow_pos _)
/-- a number of at least 1/4, in units of 2^-54 -/
theorem dv_54 {x : UInt64} {n : Nat} {q : Int} (h : dv x n q) (hb : 2 ^ 1072 ≤ n * 2 ^ (q + 1074).toNat) : ∃ m, dv x m (-54) ∧ m * 2 ^ 1020 = n * 2 ^ (q + 1074).toNat := by
  obtain ⟨hq, c, r, e1, e2⟩ := h
  have fx : FP.Core.fits FP.Core.b64 (.fin false c r) := e1 ▸ FP.Core.val64_fits x
  have hc : c < 2 ^ 53 := fx.1
  have hr : 1020 ≤ (r + 1074).toNat := by
    rcases Nat.lt_or_ge (r + 1074).toNat 1020 with z | z
    · exfalso
      have a1 : 2 ^ (r + 1074).toNat ≤ 2 ^ 1019 := Nat.pow_le_pow_right (by decide) (by omega)
      have a2 : c * 2 ^ (r + 1074).toNat < 2 ^ 53 * 2 ^ 1019 := Nat.lt_of_le_of_lt (Nat.mul_le_mul_left c a1) (Nat.mul_lt_mul_of_pos_right hc (Nat.two_pow_pos _))
      rw [← Nat.pow_add, e2] at a2
      exact absurd hb (Nat.not_le.mpr a2)
    · exact z
  have hn2 : c * 2 ^ ((r + 1074).toNat - 1020) * 2 ^ 1020 = c * 2 ^ (r + 1074).toNat := by
    rw [Nat.mul_assoc, ← Nat.pow_add, Nat.sub_add_cancel hr]
  exact ⟨_, ⟨by decide, c, r, e1, hn2.symm⟩, hn2.trans e2⟩
/-- a number of at least 1/4, times a power of 2 -/
theorem dv_mulC {x y : UInt64} {n : Nat} {q k : Int} (h : dv x n q) (hb : 2 ^ 1072 ≤ n * 2 ^ (q + 1074).toNat) (ht : n * 2 ^ (q + 1074).toNat < 2 ^ 1100) (hy : dv y 1 k) (h1 : -1000 ≤ k) (h2 : k ≤ 900) (h3 : -1074 ≤ q + k) : dv (FP.dmul x y) n (q + k) := by
  have h0 := h
  obtain ⟨hq, c, r, e1, e2⟩ := h
  have fx : FP.Core.fits FP.Core.b64 (.fin false c r) := e1 ▸ FP.Core.val64_fits x
  have hc : c < 2 ^ 53 := fx.1
  have hr : 1020 ≤ (r + 1074).toNat := by
    rcases Nat.lt_or_ge (r + 1074).toNat 1020 with z | z
    · exfalso
      have a1 : 2 ^ (r + 1074).toNat ≤ 2 ^ 1019 := Nat.pow_le_pow_right (by decide) (by omega)
      have a2 : c * 2 ^ (r + 1074).toNat < 2 ^ 53 * 2 ^ 1019 := Nat.lt_of_le_of_lt (Nat.mul_le_mul_left c a1) (Nat.mul_lt_mul_of_pos_right hc (Nat.two_pow_pos _))
      rw [← Nat.pow_add, e2] at a2
      exact absurd hb (Nat.not_le.mpr a2)
    · exact z
  have hr2 : (r + 1074).toNat < 1100 := by
    rcases Nat.lt_or_ge (r + 1074).toNat 1100 with z | z
    · exact z
    · exfalso
      have hc0 : 0 < c := by
        rcases Nat.eq_zero_or_pos c with w | w
        · rw [w, Nat.zero_mul] at e2
          rw [← e2] at hb
          exact absurd hb (Nat.not_le.mpr (Nat.two_pow_pos _))
        · exact w
      have a1 : 2 ^ 1100 ≤ 2 ^ (r + 1074).toNat := Nat.pow_le_pow_right (by decide) z
      have a2 := Nat.le_mul_of_pos_left (2 ^ (r + 1074).toNat) hc0
      omega
  have := dv_mul (dv_of e1) hy hc (by omega) (by omega)
  refine this.cg h3 ?_
  have e3 : c * 2 ^ (r + k + 1074).toNat * 2 ^ 1000 = n * 2 ^ (q + k + 1074).toNat * 2 ^ 1000 := by
    have b1 : (r + k + 1074).toNat + 1000 = (r + 1074).toNat + (k + 1000).toNat := by omega
    have b2 : (q + k + 1074).toNat + 1000 = (q + 1074).toNat + (k + 1000).toNat := by omega
    rw [Nat.mul_assoc, ← Nat.pow_add, b1, Nat.pow_add, ← Nat.mul_assoc, e2, Nat.mul_assoc, ← Nat.pow_add, ← b2, Nat.pow_add, ← Nat.mul_assoc]
  exact Nat.eq_of_mul_eq_mul_right (Nat.two_pow_pos 1000) e3
theorem val_add {x y : UInt64} {n m : Nat} (hx : dv x n (-54)) (hy : dv y m (-54)) (h0 : 0 < n) : FP.Core.val64 (FP.dadd x y) = FP.Core.roundRatio FP.Core.b64 false ((n + m) * 2 ^ 1020) 1 (-1074) := by
  obtain ⟨_, c, q, e1, e2⟩ := hx
  obtain ⟨_, d, r, f1, f2⟩ := hy
  have fx : FP.Core.fits FP.Core.b64 (.fin false c q) := e1 ▸ FP.Core.val64_fits x
  have fy : FP.Core.fits FP.Core.b64 (.fin false d r) := f1 ▸ FP.Core.val64_fits y
  show FP.Core.val64 (FP.Core.dadd x y) = _
  rw [FP.Core.val64_dadd, e1, f1, fq_sum false false c d fx.2.1 fy.2.1 rfl]
  rw [e2, f2]
  have e3 : FP.Core.signed false (n * 2 ^ (-54 + 1074 : Int).toNat) + FP.Core.signed false (m * 2 ^ (-54 + 1074 : Int).toNat) = (((n + m) * 2 ^ 1020 : Nat) : Int) := by
    rw [Nat.add_mul]
    rfl
  rw [e3]
  have e4 : FP.Core.sumSign false false (((n + m) * 2 ^ 1020 : Nat) : Int) = false := by
    unfold FP.Core.sumSign
    have : 0 < (n + m) * 2 ^ 1020 := Nat.mul_pos (by omega) (Nat.two_pow_pos _)
    rw [if_neg (by omega), decide_eq_false (by omega)]
  rw [e4]
  rfl
theorem val_div {x y : UInt64} {n m : Nat} (hx : dv x n (-54)) (hy : dv y m (-54)) (h0 : 0 < m) : FP.Core.val64 (FP.ddiv x y) = FP.Core.roundRatio FP.Core.b64 false (n * 2 ^ 1074) m (-1074) := by
  obtain ⟨_, d, r, e1, e2⟩ := hx
  obtain ⟨_, d2, r2, f1, f2⟩ := hy
  have fx : FP.Core.fits FP.Core.b64 (.fin false d r) := e1 ▸ FP.Core.val64_fits x
  have fy : FP.Core.fits FP.Core.b64 (.fin false d2 r2) := f1 ▸ FP.Core.val64_fits y
  have hr : (-1074 : Int) ≤ r := fx.2.1
  have hr2 : (-1074 : Int) ≤ r2 := fy.2.1
  have hd2 : 0 < d2 := by
    rcases Nat.eq_zero_or_pos d2 with z | z
    · rw [z, Nat.zero_mul] at f2
      have := Nat.mul_pos h0 (Nat.two_pow_pos (-54 + 1074 : Int).toNat)
      omega
    · exact z
  show FP.Core.val64 (FP.Core.ddiv x y) = _
  rw [FP.Core.val64_ddiv, e1, f1]
  show (if d2 = 0 then (if d = 0 then FP.Core.Datum.nan else FP.Core.Datum.inf (false != false)) else FP.Core.roundRatio FP.Core.b64 (false != false) d d2 (r - r2)) = _
  rw [if_neg (by omega)]
  show FP.Core.roundRatio FP.Core.b64 false d d2 (r - r2) = _
  refine FP.Core.roundRatio_congr hd2 h0 ?_
  have e2 : d * 2 ^ (r + 1074).toNat = n * 2 ^ 1020 := e2
  have f2 : d2 * 2 ^ (r2 + 1074).toNat = m * 2 ^ 1020 := f2
  have e3 : d * m * 2 ^ ((r + 1074).toNat + 1074 + 1020) = n * 2 ^ 1074 * d2 * 2 ^ ((r2 + 1074).toNat + 1020) := by
    calc d * m * 2 ^ ((r + 1074).toNat + 1074 + 1020) = (d * 2 ^ (r + 1074).toNat) * (m * 2 ^ 1020) * 2 ^ 1074 := by
          rw [Nat.pow_add, Nat.pow_add]; simp only [Nat.mul_assoc, Nat.mul_left_comm, Nat.mul_comm]
      _ = (n * 2 ^ 1020) * (d2 * 2 ^ (r2 + 1074).toNat) * 2 ^ 1074 := by rw [e2, f2]
      _ = n * 2 ^ 1074 * d2 * 2 ^ ((r2 + 1074).toNat + 1020) := by
          rw [Nat.pow_add]; simp only [Nat.mul_assoc, Nat.mul_left_comm, Nat.mul_comm]
  have e4 := pow_can e3
  have a1 : (r - r2 - -1074).toNat = (r + 1074).toNat + 1074 + 1020 - ((r2 + 1074).toNat + 1020) := by omega
  have a2 : (-1074 - (r - r2)).toNat = (r2 + 1074).toNat + 1020 - ((r + 1074).toNat + 1074 + 1020) := by omega
  rw [a1, a2]
  exact e4
theorem half_54 {s : UInt64} {S : Nat} (hs : dv s S (-54)) (h1 : 2 ^ 53 ≤ S) (h2 : S < 2 ^ 60) : ∃ n, dv (FP.dmul s 4602678819172646912) n (-54) ∧ 2 * n = S := by
  have hS : S * 2 ^ (-54 + 1074 : Int).toNat = S * 2 ^ 1020 := rfl
  have b1 : 2 ^ 53 * 2 ^ 1020 ≤ S * 2 ^ 1020 := Nat.mul_le_mul_right _ h1
  have b2 : S * 2 ^ 1020 < 2 ^ 60 * 2 ^ 1020 := Nat.mul_lt_mul_of_pos_right h2 (Nat.two_pow_pos _)
  rw [← Nat.pow_add] at b1 b2
  have c1 : (2 : Nat) ^ 1072 ≤ 2 ^ (53 + 1020) := Nat.pow_le_pow_right (by decide) (by decide)
  have c2 : (2 : Nat) ^ (60 + 1020) ≤ 2 ^ 1100 := Nat.pow_le_pow_right (by decide) (by decide)
  have hm := dv_mulC hs (by rw [hS]; exact Nat.le_trans c1 b1) (by rw [hS]; exact Nat.lt_of_lt_of_le b2 c2) dv_h (by decide) (by decide) (by decide)
  have hE : (-54 + -1 + 1074 : Int).toNat = 1019 := rfl
  have b3 : 2 ^ 53 * 2 ^ 1019 ≤ S * 2 ^ 1019 := Nat.mul_le_mul_right _ h1
  rw [← Nat.pow_add] at b3
  obtain ⟨n, m1, m2⟩ := dv_54 hm (by rw [hE]; exact b3)
  rw [hE, show (1020 : Nat) = 1 + 1019 from rfl, Nat.pow_add, ← Nat.mul_assoc] at m2
  have := Nat.eq_of_mul_eq_mul_right (Nat.two_pow_pos 1019) m2
  exact ⟨n, m1, by omega⟩
/-- one step -/
theorem nstep {y v : UInt64} {n W : Nat} (hy : dv y n (-54)) (hv : dv v W (-54)) (n1 : 2 ^ 53 ≤ n) (n2 : n ≤ 2 ^ 56) (w1 : 2 ^ 54 ≤ W) (w2 : W < 2 ^ 56) :
    ∃ k n', dv (FP.dmul (FP.dadd y (FP.ddiv v y)) 4602678819172646912) n' (-54) ∧ k * n ≤ W * 2 ^ 54 + 32 * n ∧ W * 2 ^ 54 ≤ k * n + 32 * n ∧ 2 * n' ≤ n + k + 32 ∧ n + k ≤ 2 * n' + 32 ∧ vf_n64 (FP.ddiv v y) ∧ vf_n64 (FP.dadd y (FP.ddiv v y)) := by
  have hn0 : 0 < n := by have := Nat.two_pow_pos 53; omega
  have hdv := val_div hv hy hn0
  have p1 : (2 : Nat) ^ 1074 = 2 ^ 54 * 2 ^ 1020 := by rw [← Nat.pow_add]
  have p2 : (2 : Nat) ^ 1072 = 2 ^ 52 * 2 ^ 1020 := by rw [← Nat.pow_add]
  have hp := Nat.two_pow_pos 1020
  obtain ⟨k, k1, k2, k3, k4⟩ := rnd_near hn0 hdv (by
    rw [p1, p2, Nat.mul_right_comm, ← Nat.mul_assoc]
    exact Nat.mul_le_mul_right _ (by omega)) (by
    rw [p1, ← Nat.mul_assoc, show 15 * (2 ^ 54 * 2 ^ 1020) * n = 15 * 2 ^ 54 * n * 2 ^ 1020 by rw [← Nat.mul_assoc, Nat.mul_right_comm]]
    exact Nat.mul_le_mul_right _ (by omega))
  rw [p1, ← Nat.mul_assoc, Nat.mul_right_comm k, Nat.mul_right_comm 32, ← Nat.add_mul] at k2
  rw [p1, ← Nat.mul_assoc, Nat.mul_right_comm (k + 32)] at k3
  have q2 := Nat.le_of_mul_le_mul_right k2 hp
  have q3 := Nat.le_of_mul_le_mul_right k3 hp
  rw [Nat.add_mul] at q3
  have kb : k ≤ 2 ^ 58 := by
    have a1 : k * 2 ^ 53 ≤ k * n := Nat.mul_le_mul_left k n1
    omega
  have hadd := val_add hy k1 hn0
  obtain ⟨S, s1, s2, s3, s4⟩ := rnd_near (by decide) hadd (by
    rw [p2, Nat.mul_one]
    exact Nat.mul_le_mul_right _ (by omega)) (by
    rw [p1, ← Nat.mul_assoc, Nat.mul_one]
    have a1 : k * 2 ^ 53 ≤ k * n := Nat.mul_le_mul_left k n1
    exact Nat.mul_le_mul_right _ (by omega))
  rw [Nat.mul_one, Nat.mul_one, ← Nat.add_mul] at s2
  rw [Nat.mul_one] at s3
  have t2 := Nat.le_of_mul_le_mul_right s2 hp
  have t3 := Nat.le_of_mul_le_mul_right s3 hp
  obtain ⟨n', m1, m2⟩ := half_54 s1 (by omega) (by omega)
  exact ⟨k, n', m1, q2, q3, by omega, by omega, k1.nn, s1.nn⟩
/-- the first guess -/
theorem nfirst {v : UInt64} {W : Nat} (hv : dv v W (-54)) (w1 : 2 ^ 54 ≤ W) (w2 : W < 2 ^ 56) :
    ∃ n', dv (FP.dmul (FP.dadd FP.dconst1 v) 4602678819172646912) n' (-54) ∧ 2 * n' ≤ 2 ^ 54 + W + 32 ∧ 2 ^ 54 + W ≤ 2 * n' + 32 ∧ vf_n64 (FP.dadd FP.dconst1 v) := by
  have h1 : dv FP.dconst1 (2 ^ 54) (-54) := dv_c1.cg (by decide) (by decide +kernel)
  have p1 : (2 : Nat) ^ 1074 = 2 ^ 54 * 2 ^ 1020 := by rw [← Nat.pow_add]
  have p2 : (2 : Nat) ^ 1072 = 2 ^ 52 * 2 ^ 1020 := by rw [← Nat.pow_add]
  have hp := Nat.two_pow_pos 1020
  have hadd := val_add h1 hv (Nat.two_pow_pos 54)
  obtain ⟨S, s1, s2, s3, s4⟩ := rnd_near (by decide) hadd (by
    rw [p2, Nat.mul_one]
    exact Nat.mul_le_mul_right _ (by omega)) (by
    rw [p1, ← Nat.mul_assoc, Nat.mul_one]
    exact Nat.mul_le_mul_right _ (by omega))
  rw [Nat.mul_one, Nat.mul_one, ← Nat.add_mul] at s2
  rw [Nat.mul_one] at s3
  have t2 := Nat.le_of_mul_le_mul_right s2 hp
  have t3 := Nat.le_of_mul_le_mul_right s3 hp
  obtain ⟨n', m1, m2⟩ := half_54 s1 (by omega) (by omega)
  exact ⟨n', m1, by omega, by omega, s1.nn⟩
