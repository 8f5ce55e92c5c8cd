/-- a product of two floats, in doubles, and then a float -/
theorem fq_mul {a b : UInt32} (ha : FP.Core.FFin a) (hb : FP.Core.FFin b) : FP.d2f (FP.dmul (FP.f2d a) (FP.f2d b)) = FP.fmul a b := by
  obtain ⟨s, c, q, c', q', a1, a2, a3, a4, a5, a6⟩ := fq_f2d ha
  obtain ⟨t, d, r, d', r', b1, b2, b3, b4, b5, b6⟩ := fq_f2d hb
  obtain ⟨f1, f2, f3, f4⟩ := fq_fit32 a2
  obtain ⟨g1, g2, g3, g4⟩ := fq_fit32 b2
  have hq' : (-1074 : Int) ≤ q' := a4.2.1
  have hr' : (-1074 : Int) ≤ r' := b4.2.1
  rw [fq_jf2d ha, fq_jf2d hb]
  have hcd : c * d < 2 ^ 53 := by
    have h1 : c * d ≤ 2 ^ 24 * 2 ^ 24 := Nat.mul_le_mul (by omega) (by omega)
    have h2 : 2 ^ 24 * 2 ^ 24 < 2 ^ 53 := by decide
    omega
  obtain ⟨C, Q, h1, h2⟩ := FP.Core.round_exact FP.Core.good_b64 (s != t) (c := c * d) (q := q + r) hcd (by rw [FP.Core.qmin_b64]; omega) (by show _ ≤ (971 : Int); omega)
  have hfitC : FP.Core.fits FP.Core.b64 (.fin (s != t) C Q) := by rw [← h1]; exact FP.Core.round_fits FP.Core.good_b64 _
  have hQ : (-1074 : Int) ≤ Q := hfitC.2.1
  have hv : FP.Core.val64 (FP.Core.dmul (FP.Core.f2d a) (FP.Core.f2d b)) = .fin (s != t) C Q := by
    rw [FP.Core.val64_dmul, a3, b3, ← h1]
    show FP.Core.roundRatio FP.Core.b64 (s != t) (c' * d') 1 (q' + r') = FP.Core.roundRatio FP.Core.b64 (s != t) (c * d) 1 (q + r)
    apply FP.Core.roundRatio_congr (by decide) (by decide)
    have k1 : c' * d' * 2 ^ ((q' + 1074).toNat + (r' + 1074).toNat) = c * d * 2 ^ ((q + 1074).toNat + (r + 1074).toNat) := by
      rw [Nat.pow_add, Nat.pow_add, Nat.mul_mul_mul_comm c' d', Nat.mul_mul_mul_comm c d, a6, b6]
    obtain ⟨x, hx⟩ : ∃ x, x = (q' + 1074).toNat + (r' + 1074).toNat := ⟨_, rfl⟩
    obtain ⟨y, hy⟩ : ∃ y, y = (q + 1074).toNat + (r + 1074).toNat := ⟨_, rfl⟩
    rw [← hx, ← hy] at k1
    have e1 : (q' + r' - (q + r)).toNat = x - y := by omega
    have e2 : (q + r - (q' + r')).toNat = y - x := by omega
    rw [e1, e2, Nat.mul_one, Nat.mul_one]
    have hp : 0 < 2 ^ (min x y) := Nat.two_pow_pos _
    apply Nat.eq_of_mul_eq_mul_right hp
    rw [Nat.mul_assoc (c' * d'), Nat.mul_assoc (c * d), ← fq_pw (show x - y + min x y = x by omega), ← fq_pw (show y - x + min x y = y by omega), k1]
  have hnn : FP.Core.dIsNaN (FP.Core.dmul (FP.Core.f2d a) (FP.Core.f2d b)) = false := by
    rw [FP.Core.notNaN_iff, hv]; exact fun h => by cases h
  rw [fq_jd2f hnn]
  apply FP.Core.val32_inj
  · rw [FP.Core.val32_d2f, hv]
    intro h
    have := FP.Core.round_nan.mp h
    cases this
  rw [FP.Core.val32_d2f, hv, FP.Core.val32_fmul, a1, b1]
  show FP.Core.roundRatio FP.Core.b32 (s != t) C 1 Q = FP.Core.roundRatio FP.Core.b32 (s != t) (c * d) 1 (q + r)
  apply FP.Core.roundRatio_congr (by decide) (by decide)
  unfold FP.Core.inUnits at h2
  rw [FP.Core.qmin_b64] at h2
  rw [Nat.mul_one, Nat.mul_one]
  obtain ⟨x, hx⟩ : ∃ x, x = (Q - -1074).toNat := ⟨_, rfl⟩
  obtain ⟨y, hy⟩ : ∃ y, y = (q + r - -1074).toNat := ⟨_, rfl⟩
  rw [← hx, ← hy] at h2
  have e1 : (Q - (q + r)).toNat = x - y := by omega
  have e2 : (q + r - Q).toNat = y - x := by omega
  rw [e1, e2]
  have hp : 0 < 2 ^ (min x y) := Nat.two_pow_pos _
  apply Nat.eq_of_mul_eq_mul_right hp
  rw [Nat.mul_assoc, Nat.mul_assoc (c * d), ← fq_pw (show x - y + min x y = x by omega), ← fq_pw (show y - x + min x y = y by omega), h2]
/-- the rounded sum, in the small units -/
theorem fq_sum {f : FP.Core.Fmt} (s t : Bool) (c d : Nat) {q r : Int} (hq : -1074 ≤ q) (hr : -1074 ≤ r) {v : Int} (hv : v = FP.Core.signed s (c * 2 ^ (q + 1074).toNat) + FP.Core.signed t (d * 2 ^ (r + 1074).toNat)) : FP.Core.round f (FP.Core.exactSum (.fin s c q) (.fin t d r)) = FP.Core.roundRatio f (FP.Core.sumSign s t v) v.natAbs 1 (-1074) := by
  show FP.Core.roundRatio f (FP.Core.sumSign s t (FP.Core.sumUnits s c q t d r (min q r))) (FP.Core.sumUnits s c q t d r (min q r)).natAbs 1 (min q r) = _
  obtain ⟨e, he⟩ : ∃ e, e = min q r := ⟨_, rfl⟩
  rw [← he]
  obtain ⟨su, hsu⟩ : ∃ su, su = FP.Core.sumUnits s c q t d r e := ⟨_, rfl⟩
  have e1 : (q + 1074).toNat = (q - e).toNat + (e + 1074).toNat := by omega
  have e2 : (r + 1074).toNat = (r - e).toNat + (e + 1074).toNat := by omega
  have hm : v = su * ((2 ^ (e + 1074).toNat : Nat) : Int) := by
    rw [hv, hsu]
    unfold FP.Core.sumUnits FP.Core.inUnits
    rw [e1, e2, Nat.pow_add, Nat.pow_add, ← Nat.mul_assoc, ← Nat.mul_assoc, FP.Core.signed_mul s, FP.Core.signed_mul t, ← Int.add_mul]
  have hp : (0 : Int) < ((2 ^ (e + 1074).toNat : Nat) : Int) := Int.ofNat_lt.mpr (Nat.two_pow_pos _)
  rw [← hsu]
  have hsg : FP.Core.sumSign s t su = FP.Core.sumSign s t v := by
    unfold FP.Core.sumSign
    by_cases h0 : su = 0
    · have : v = 0 := by rw [hm, h0, Int.zero_mul]
      rw [if_pos h0, if_pos this]
    · have h1 : v ≠ 0 := by
        rw [hm]; exact Int.mul_ne_zero h0 (by omega)
      rw [if_neg h0, if_neg h1]
      have : su < 0 ↔ v < 0 := by
        rw [hm]
        constructor
        · intro h; exact Int.mul_neg_of_neg_of_pos h hp
        · intro h
          by_cases g : su < 0
          · exact g
          · have := Int.mul_nonneg (Int.not_lt.mp g) (Int.le_of_lt hp)
            omega
      simp only [this]
  rw [hsg]
  apply FP.Core.roundRatio_congr (by decide) (by decide)
  have e3 : (e - -1074).toNat = (e + 1074).toNat := by omega
  have e4 : (-1074 - e).toNat = 0 := by omega
  rw [e3, e4, hm, Int.natAbs_mul, Int.natAbs_natCast, Nat.mul_one, Nat.mul_one, Nat.mul_one]
/-- what is exact in a double is rounded once -/
theorem fq_ex32 (sg : Bool) {U n k : Nat} (hn : n < 2 ^ 53) (hk : k ≤ 2045) (hU : U = n * 2 ^ k) : FP.Core.round FP.Core.b32 (FP.Core.roundRatio FP.Core.b64 sg U 1 (-1074)) = FP.Core.roundRatio FP.Core.b32 sg U 1 (-1074) := by
  obtain ⟨C, Q, h1, h2⟩ := FP.Core.round_exact FP.Core.good_b64 sg (c := n) (q := (k : Int) - 1074) hn (by rw [FP.Core.qmin_b64]; omega) (by show _ ≤ (971 : Int); omega)
  have hfitC : FP.Core.fits FP.Core.b64 (.fin sg C Q) := by rw [← h1]; exact FP.Core.round_fits FP.Core.good_b64 _
  have hQ : (-1074 : Int) ≤ Q := hfitC.2.1
  have e0 : FP.Core.roundRatio FP.Core.b64 sg U 1 (-1074) = .fin sg C Q := by
    rw [← h1]
    show _ = FP.Core.roundRatio FP.Core.b64 sg n 1 ((k : Int) - 1074)
    apply FP.Core.roundRatio_congr (by decide) (by decide)
    have e3 : (-1074 - ((k : Int) - 1074)).toNat = 0 := by omega
    have e4 : ((k : Int) - 1074 - -1074).toNat = k := by omega
    rw [e3, e4, hU, Nat.pow_zero, Nat.mul_one, Nat.mul_one, Nat.mul_one]
  rw [e0]
  show FP.Core.roundRatio FP.Core.b32 sg C 1 Q = _
  apply FP.Core.roundRatio_congr (by decide) (by decide)
  unfold FP.Core.inUnits at h2
  rw [FP.Core.qmin_b64] at h2
  have e3 : (-1074 - Q).toNat = 0 := by omega
  have e4 : ((k : Int) - 1074 - -1074).toNat = k := by omega
  rw [e4] at h2
  rw [e3, Nat.mul_one, Nat.mul_one, h2, hU, Nat.mul_one]
theorem fq_far (sg : Bool) {c q5 U : Nat} (hc : c < 2 ^ 24) (hc2 : 2 ^ 23 ≤ c) (h1 : (32 * c - 1) * 2 ^ q5 ≤ U) (h2 : U ≤ (32 * c + 1) * 2 ^ q5) (hq : 949 ≤ q5) (hq2 : q5 ≤ 1300) : FP.Core.round FP.Core.b32 (FP.Core.roundRatio FP.Core.b64 sg U 1 (-1074)) = FP.Core.roundRatio FP.Core.b32 sg U 1 (-1074) := by
  have hp : 0 < 2 ^ q5 := Nat.two_pow_pos _
  have hU : 0 < U := by
    have : 1 * 2 ^ q5 ≤ (32 * c - 1) * 2 ^ q5 := Nat.mul_le_mul_right _ (by omega)
    omega
  have k1 : 2 ^ q5 * 1 ≤ U := by
    have : 1 * 2 ^ q5 ≤ (32 * c - 1) * 2 ^ q5 := Nat.mul_le_mul_right _ (by omega)
    omega
  have k2 : U ≤ 2 ^ (q5 + 30) * 1 := by
    have h3 : (32 * c + 1) * 2 ^ q5 ≤ 2 ^ 30 * 2 ^ q5 := Nat.mul_le_mul_right _ (by omega)
    rw [fq_pw (show 30 + q5 = q5 + 30 by omega)]
    omega
  obtain ⟨C, r2, hY, hfit, hC, hr2⟩ := fq_fin sg (by decide) (by omega) (by omega) k1 k2
  rw [hY]
  refine fq_dr hU (by decide) hC hr2 hY ?_ ?_
  · have h3 : 2 ^ (q5 + 30) < 2 ^ 2000 := Nat.pow_lt_pow_right (by decide) (by omega)
    rw [Nat.one_mul]
    exact Nat.lt_of_le_of_lt k2 (by rw [Nat.mul_one]; exact h3)
  · intro t k ht ht25 hk hk0 hk1 hZ
    exfalso
    obtain ⟨b1, b2⟩ := fq_qb hU (by decide) hk
    rw [Nat.one_mul] at b1 b2
    have z1 := fq_ge (by decide) hY (h := 32 * c - 1) (k := q5) (by omega) (by omega) (by rw [Nat.mul_one]; exact h1)
    have z2 := fq_le (by decide) hY (h := 32 * c + 1) (k := q5) (by omega) (by omega) (by rw [Nat.mul_one]; exact h2)
    rw [hZ] at z1 z2
    -- k is at least q5 + 3
    have hk3 : q5 + 3 ≤ k := by
      rcases Nat.lt_or_ge k (q5 + 3) with g | g
      · exfalso
        have h3 : 2 ^ k ≤ 2 ^ (q5 + 2) := Nat.pow_le_pow_right (by decide) (by omega)
        have h4 : 2 ^ (q5 + 2) = 2 ^ q5 * 4 := fq_pw (b := 2) rfl
        have h5 : (2 ^ 28 - 1) * 2 ^ q5 ≤ (32 * c - 1) * 2 ^ q5 := Nat.mul_le_mul_right _ (by omega)
        omega
      · exact g
    rcases b2 with b2 | b2
    · omega
    have h24 : 2 ^ 24 * 2 ^ k ≤ FP.Core.inUnits C r2 (-1074) := fq_ge (by decide) hY (by decide) (by omega) (by rw [Nat.mul_one]; omega)
    rw [hZ] at h24
    have ht24 : 2 ^ 24 ≤ t := Nat.le_of_mul_le_mul_right h24 (Nat.two_pow_pos k)
    obtain ⟨y, hy⟩ : ∃ y, k = q5 + 3 + y := ⟨k - (q5 + 3), by omega⟩
    have hpk : 2 ^ k = 2 ^ q5 * (8 * 2 ^ y) := by
      rw [hy, Nat.pow_add, Nat.pow_add, Nat.mul_assoc]
    have hm : t * 2 ^ k = (t * (8 * 2 ^ y)) * 2 ^ q5 := by rw [hpk, Nat.mul_left_comm, Nat.mul_comm]
    rw [hm] at z1 z2
    have y1 := Nat.le_of_mul_le_mul_right z1 hp
    have y2 := Nat.le_of_mul_le_mul_right z2 hp
    have hy2 : y < 2 := by
      rcases Nat.lt_or_ge y 2 with g | g
      · exact g
      · exfalso
        have h3 : 2 ^ 2 ≤ 2 ^ y := Nat.pow_le_pow_right (by decide) g
        have h4 : 2 ^ 24 * (8 * 2 ^ 2) ≤ t * (8 * 2 ^ y) := Nat.mul_le_mul ht24 (by omega)
        omega
    rcases (by omega : y = 0 ∨ y = 1) with rfl | rfl
    · rw [Nat.pow_zero] at y1 y2; omega
    · rw [Nat.pow_one] at y1 y2; omega
theorem fq_dsum {s t : Bool} {c d : Nat} {q r : Int} (hx : FP.Core.fits FP.Core.b32 (.fin s c q)) (hy : FP.Core.fits FP.Core.b32 (.fin t d r)) (hle : r ≤ q) {v : Int} (hv : v = FP.Core.signed s (c * 2 ^ (q + 1074).toNat) + FP.Core.signed t (d * 2 ^ (r + 1074).toNat)) (sg : Bool) : FP.Core.round FP.Core.b32 (FP.Core.roundRatio FP.Core.b64 sg v.natAbs 1 (-1074)) = FP.Core.roundRatio FP.Core.b32 sg v.natAbs 1 (-1074) := by
  obtain ⟨f1, f2, f3, f4⟩ := fq_fit32 hx
  obtain ⟨g1, g2, g3, g4⟩ := fq_fit32 hy
  obtain ⟨k, hk⟩ : ∃ k, k = (r + 1074).toNat := ⟨_, rfl⟩
  obtain ⟨j, hj⟩ : ∃ j, j = (q - r).toNat := ⟨_, rfl⟩
  have hqk : (q + 1074).toNat = j + k := by omega
  rw [hqk, ← hk] at hv
  have hcj : c * 2 ^ (j + k) = c * 2 ^ j * 2 ^ k := by rw [Nat.pow_add, Nat.mul_assoc]
  have hvm : v = (FP.Core.signed s (c * 2 ^ j) + FP.Core.signed t d) * ((2 ^ k : Nat) : Int) := by
    rw [hv, hcj, FP.Core.signed_mul s, FP.Core.signed_mul t, Int.add_mul]
  obtain ⟨n, hn⟩ : ∃ n, n = (FP.Core.signed s (c * 2 ^ j) + FP.Core.signed t d) := ⟨_, rfl⟩
  rw [← hn] at hvm
  have hU : v.natAbs = n.natAbs * 2 ^ k := by rw [hvm, Int.natAbs_mul, Int.natAbs_natCast]
  have hsx : FP.Core.signed s (c * 2 ^ j) = ((c * 2 ^ j : Nat) : Int) ∨ FP.Core.signed s (c * 2 ^ j) = -((c * 2 ^ j : Nat) : Int) := by
    unfold FP.Core.signed; cases s <;> simp
  have hsy : FP.Core.signed t d = (d : Int) ∨ FP.Core.signed t d = -(d : Int) := by
    unfold FP.Core.signed; cases t <;> simp
  obtain ⟨X, hX⟩ : ∃ X, X = c * 2 ^ j := ⟨_, rfl⟩
  rw [← hX] at hn hsx
  rcases Nat.lt_or_ge j 29 with hj28 | hj29
  · refine fq_ex32 sg (n := n.natAbs) (k := k) ?_ (by omega) hU
    have h1 : X ≤ 2 ^ 24 * 2 ^ 28 := by
      rw [hX]; exact Nat.mul_le_mul (by omega) (Nat.pow_le_pow_right (by decide) (by omega))
    have : n.natAbs ≤ X + d := by omega
    omega
  · have hc2 : 2 ^ 23 ≤ c := by omega
    have hp5 : 2 ^ (j + k) = 32 * 2 ^ (j + k - 5) := fq_pw (a := 5) (by omega)
    have hX32 : X * 2 ^ k = 32 * c * 2 ^ (j + k - 5) := by
      rw [hX, ← hcj, hp5, Nat.mul_left_comm, Nat.mul_assoc]
    have hdk : d * 2 ^ k ≤ 2 ^ (j + k - 5) := by
      have h3 : 2 ^ (24 + k) ≤ 2 ^ (j + k - 5) := Nat.pow_le_pow_right (by decide) (by omega)
      have h4 : 2 ^ (24 + k) = 2 ^ 24 * 2 ^ k := Nat.pow_add _ _ _
      have h5 : d * 2 ^ k ≤ 2 ^ 24 * 2 ^ k := Nat.mul_le_mul_right _ (by omega)
      omega
    have hdX : d ≤ X := by
      rw [hX]
      have h3 : 2 ^ 29 ≤ 2 ^ j := Nat.pow_le_pow_right (by decide) hj29
      have h4 : 1 * 2 ^ 29 ≤ c * 2 ^ j := Nat.mul_le_mul (by omega) h3
      omega
    have hlo : X - d ≤ n.natAbs := by omega
    have hhi : n.natAbs ≤ X + d := by omega
    have e1 : (X - d) * 2 ^ k = 32 * c * 2 ^ (j + k - 5) - d * 2 ^ k := by rw [Nat.sub_mul, hX32]
    have e2 : (X + d) * 2 ^ k = 32 * c * 2 ^ (j + k - 5) + d * 2 ^ k := by rw [Nat.add_mul, hX32]
    have m1 : (X - d) * 2 ^ k ≤ v.natAbs := by rw [hU]; exact Nat.mul_le_mul_right _ hlo
    have m2 : v.natAbs ≤ (X + d) * 2 ^ k := by rw [hU]; exact Nat.mul_le_mul_right _ hhi
    refine fq_far sg (c := c) (q5 := j + k - 5) f1 hc2 ?_ ?_ (by omega) (by omega)
    · rw [Nat.sub_mul, Nat.one_mul]; omega
    · rw [Nat.add_mul, Nat.one_mul]; omega
/-- a sum of two floats, in doubles, and then a float -/
theorem fq_add {a b : UInt32} (ha : FP.Core.FFin a) (hb : FP.Core.FFin b) : FP.d2f (FP.dadd (FP.f2d a) (FP.f2d b)) = FP.fadd a b := by
  obtain ⟨s, c, q, c', q', a1, a2, a3, a4, a5, a6⟩ := fq_f2d ha
  obtain ⟨t, d, r, d', r', b1, b2, b3, b4, b5, b6⟩ := fq_f2d hb
  have hq' : (-1074 : Int) ≤ q' := a4.2.1
  have hr' : (-1074 : Int) ≤ r' := b4.2.1
  have hq : (-149 : Int) ≤ q := a2.2.1
  have hr : (-149 : Int) ≤ r := b2.2.1
  rw [fq_jf2d ha, fq_jf2d hb]
  obtain ⟨v, hv⟩ : ∃ v, v = FP.Core.signed s (c * 2 ^ (q + 1074).toNat) + FP.Core.signed t (d * 2 ^ (r + 1074).toNat) := ⟨_, rfl⟩
  have h64 : FP.Core.val64 (FP.Core.dadd (FP.Core.f2d a) (FP.Core.f2d b)) = FP.Core.roundRatio FP.Core.b64 (FP.Core.sumSign s t v) v.natAbs 1 (-1074) := by
    rw [FP.Core.val64_dadd, a3, b3]
    exact fq_sum s t c' d' hq' hr' (by rw [a6, b6]; exact hv)
  have h32 : FP.Core.val32 (FP.Core.fadd a b) = FP.Core.roundRatio FP.Core.b32 (FP.Core.sumSign s t v) v.natAbs 1 (-1074) := by
    rw [FP.Core.val32_fadd, a1, b1]
    exact fq_sum s t c d (by omega) (by omega) hv
  have hnn : FP.Core.dIsNaN (FP.Core.dadd (FP.Core.f2d a) (FP.Core.f2d b)) = false := by
    rw [FP.Core.notNaN_iff, h64]; exact FP.Core.roundRatio_ne_nan _ _ _ _ _
  rw [fq_jd2f hnn]
  apply FP.Core.val32_inj
  · rw [FP.Core.val32_d2f, h64]
    intro h
    exact FP.Core.roundRatio_ne_nan _ _ _ _ _ (FP.Core.round_nan.mp h)
  rw [FP.Core.val32_d2f, h64, h32]
  rcases Int.le_total r q with g | g
  · exact fq_dsum a2 b2 g hv _
  · exact fq_dsum b2 a2 g (by rw [hv]; exact Int.add_comm _ _) _
theorem fq_neg {b : UInt32} (hb : FP.Core.FFin b) : FP.Core.f2d (FP.Core.fneg b) = FP.Core.dneg (FP.Core.f2d b) := by
  have h1 : FP.Core.val64 (FP.Core.f2d (FP.Core.fneg b)) = FP.Core.val64 (FP.Core.dneg (FP.Core.f2d b)) := by
    rw [FP.Core.val64_f2d, FP.Core.val32_fneg, FP.Core.val64_dneg, FP.Core.val64_f2d, FP.Core.negate_round]
  refine FP.Core.val64_inj ?_ h1
  rw [FP.Core.val64_f2d, FP.Core.val32_fneg]
  intro h
  have h2 := FP.Core.round_nan.mp h
  rw [FP.Core.negate_nan] at h2
  exact hb.ne_nan h2
theorem fq_nfin {b : UInt32} (hb : FP.Core.FFin b) : FP.Core.FFin (FP.Core.fneg b) := by
  obtain ⟨s, c, q, h⟩ := hb
  exact ⟨!s, c, q, by rw [FP.Core.val32_fneg, h]; rfl⟩
theorem fq_sub {a b : UInt32} (ha : FP.Core.FFin a) (hb : FP.Core.FFin b) : FP.d2f (FP.dsub (FP.f2d a) (FP.f2d b)) = FP.fsub a b := by
  have h1 := fq_add ha (fq_nfin hb)
  rw [fq_jf2d (fq_nfin hb), fq_neg hb, ← fq_jf2d hb] at h1
  show FP.d2f (FP.Core.dsub _ _) = FP.Core.fsub a b
  rw [FP.Core.dsub_eq, FP.Core.fsub_eq]
  exact h1
