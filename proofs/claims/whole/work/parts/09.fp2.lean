theorem fq_pw {a b c : Nat} (h : a + b = c) : 2 ^ c = 2 ^ a * 2 ^ b := by rw [← h, Nat.pow_add]
theorem fq_qb {U B k : Nat} (hU : 0 < U) (hB : 0 < B) (hk : (k : Int) = FP.Core.quantum FP.Core.b32 U B (-1074) + 1073) : U < 2 ^ 24 * (2 * (B * 2 ^ k)) ∧ (k = 924 ∨ 2 ^ 23 * (2 * (B * 2 ^ k)) ≤ U) := by
  obtain ⟨q, hq⟩ : ∃ q, q = FP.Core.quantum FP.Core.b32 U B (-1074) := ⟨_, rfl⟩
  have hq0 : -149 ≤ q := by rw [hq]; exact FP.Core.quantum_ge FP.Core.b32 U B (-1074)
  rw [← hq] at hk
  have hud : FP.Core.unitsDen B (-1074) q = 2 * (B * 2 ^ k) := fq_ud hk
  constructor
  · have h1 := FP.Core.quantum_below (f := FP.Core.b32) hU hB (-1074)
    rw [← hq] at h1
    have h2 := (FP.Core.units_below U B (-1074) q 24).mpr h1
    rw [fq_un hq0, hud] at h2
    exact h2
  · rcases FP.Core.quantum_not_below (f := FP.Core.b32) hU hB (-1074) with h1 | h1
    · left; rw [← hq] at h1
      have h3 : q = -149 := h1
      omega
    · right
      rw [← hq] at h1
      have h2 : ¬ FP.Core.unitsNum U (-1074) q < 2 ^ 23 * FP.Core.unitsDen B (-1074) q := fun h => h1 ((FP.Core.units_below U B (-1074) q 23).mp h)
      rw [fq_un hq0, hud] at h2
      exact Nat.not_lt.mp h2
/-- between bounds the double is a number, and not zero -/
theorem fq_fin (s : Bool) {U B k1 k2 : Nat} (hB : 0 < B) (hk1 : k1 ≤ 2000) (hk2 : k2 ≤ 2000) (h1 : 2 ^ k1 * B ≤ U) (h2 : U ≤ 2 ^ k2 * B) : ∃ c r, FP.Core.roundRatio FP.Core.b64 s U B (-1074) = .fin s c r ∧ FP.Core.fits FP.Core.b64 (.fin s c r) ∧ 0 < c ∧ -1074 ≤ r := by
  have hfit := FP.Core.roundRatio_fits FP.Core.good_b64 s U hB (-1074)
  have hs := FP.Core.sgn_roundRatio FP.Core.b64 s U B (-1074)
  have hnn := FP.Core.roundRatio_ne_nan FP.Core.b64 s U B (-1074)
  obtain ⟨V, v1, v2, v3⟩ := fq_rep s (h := 1) (k := k2) (by decide) (by omega)
  have hle := FP.Core.zmag_roundRatio_le FP.Core.good_b64 (s := s) (A := U) (B := B) (e := -1074) (e0 := -1074) hB v1 v2 (by rw [FP.Core.qmin_b64]; omega) (by omega) (by
    rw [v3, FP.Core.qmin_b64]
    show U * 2 ^ 0 ≤ 1 * 2 ^ k2 * 2 ^ 0 * B
    rw [Nat.pow_zero, Nat.mul_one, Nat.mul_one, Nat.one_mul]; exact h2)
  obtain ⟨V2, w1, w2, w3⟩ := fq_rep s (h := 1) (k := k1) (by decide) (by omega)
  have hge := FP.Core.zmag_roundRatio_ge FP.Core.good_b64 (s := s) (A := U) (B := B) (e := -1074) (e0 := -1074) hB w1 (by rw [FP.Core.qmin_b64]; omega) (by omega) (by
    rw [w3, FP.Core.qmin_b64]
    show 1 * 2 ^ k1 * 2 ^ 0 * B ≤ U * 2 ^ 0
    rw [Nat.pow_zero, Nat.mul_one, Nat.mul_one, Nat.one_mul]; exact h1)
  rw [v3, Nat.one_mul] at hle
  rw [w3, Nat.one_mul] at hge
  cases hd : FP.Core.roundRatio FP.Core.b64 s U B (-1074) with
  | nan => exact absurd hd hnn
  | inf t =>
    rw [hd] at hle
    exfalso
    have hle : FP.Core.b64.tails * 2 ^ (FP.Core.b64.exps - 2) ≤ 2 ^ k2 := hle
    have e : FP.Core.b64.exps - 2 = 2046 := by decide
    rw [e, FP.Core.tails_b64, ← Nat.pow_add] at hle
    have := Nat.pow_lt_pow_right (a := 2) (by decide) (show k2 < 52 + 2046 by omega)
    omega
  | fin t c r =>
    rw [hd] at hs hfit hge
    have ht : t = s := hs
    subst ht
    refine ⟨c, r, rfl, hfit, ?_, ?_⟩
    · rcases Nat.eq_zero_or_pos c with h | h
      · exfalso
        rw [h] at hge
        have e : FP.Core.zmag FP.Core.b64 (.fin t 0 r) = 0 := Nat.zero_mul _
        rw [e] at hge
        have := Nat.two_pow_pos k1
        omega
      · exact h
    · have := hfit.2.1
      rw [FP.Core.qmin_b64] at this
      exact this
theorem fq_ratio {f : FP.Core.Fmt} (s : Bool) (c : Nat) {d : Nat} {q r : Int} (hd : 0 < d) (hq : -149 ≤ q) (hr : r ≤ 200) (hr0 : -1074 ≤ r) : FP.Core.roundRatio f s c d (q - r) = FP.Core.roundRatio f s (c * 2 ^ (q - r + 1074).toNat) d (-1074) := by
  apply FP.Core.roundRatio_congr hd hd
  have e1 : (q - r - -1074).toNat = (q - r + 1074).toNat := by omega
  have e2 : (-1074 - (q - r)).toNat = 0 := by omega
  rw [e1, e2, Nat.pow_zero, Nat.mul_one, Nat.mul_right_comm]
/-- a float as a double: the same number -/
theorem fq_f2d {a : UInt32} (h : FP.Core.FFin a) : ∃ s c q c' q', FP.Core.val32 a = .fin s c q ∧ FP.Core.fits FP.Core.b32 (.fin s c q) ∧ FP.Core.val64 (FP.Core.f2d a) = .fin s c' q' ∧ FP.Core.fits FP.Core.b64 (.fin s c' q') ∧ (c = 0 ↔ c' = 0) ∧ c' * 2 ^ (q' + 1074).toNat = c * 2 ^ (q + 1074).toNat := by
  obtain ⟨s, c, q, h⟩ := h
  obtain ⟨c', q', hfit, h0, hv⟩ := FP.Core.within_fit FP.Core.good_b64 FP.Core.within_32_64 (h ▸ FP.Core.val32_fits a)
  refine ⟨s, c, q, c', q', h, h ▸ FP.Core.val32_fits a, ?_, hfit, h0, ?_⟩
  · rw [FP.Core.val64_f2d, h]
    exact FP.Core.roundRatio_exact FP.Core.good_b64 (by decide) hfit hv
  · have hq : (-149 : Int) ≤ q := (h ▸ FP.Core.val32_fits a : FP.Core.fits FP.Core.b32 (.fin s c q)).2.1
    have hq' : (-1074 : Int) ≤ q' := hfit.2.1
    rw [Nat.mul_one] at hv
    rcases Int.le_total q q' with g | g
    · have e1 : (q - q').toNat = 0 := by omega
      have e2 : (q' + 1074).toNat = (q' - q).toNat + (q + 1074).toNat := by omega
      rw [e1, Nat.pow_zero, Nat.mul_one] at hv
      rw [e2, Nat.pow_add, ← Nat.mul_assoc, ← hv]
    · have e1 : (q' - q).toNat = 0 := by omega
      have e2 : (q + 1074).toNat = (q - q').toNat + (q' + 1074).toNat := by omega
      rw [e1, Nat.pow_zero, Nat.mul_one] at hv
      rw [e2, Nat.pow_add, ← Nat.mul_assoc, hv]
theorem fq_fit32 {s : Bool} {c : Nat} {q : Int} (h : FP.Core.fits FP.Core.b32 (.fin s c q)) : c < 2 ^ 24 ∧ -149 ≤ q ∧ q ≤ 104 ∧ (q = -149 ∨ 2 ^ 23 ≤ c) := h
theorem fq_jf2d {a : UInt32} (h : FP.Core.FFin a) : FP.f2d a = FP.Core.f2d a := by
  unfold FP.f2d
  have := h.notNaN
  rw [show FP.Core.fIsNaN a = false from this]; rfl
theorem fq_jd2f {a : UInt64} (h : FP.Core.dIsNaN a = false) : FP.d2f a = FP.Core.d2f a := by
  unfold FP.d2f
  rw [h]; rfl
/-- a ratio of two significands that isn't half a unit: a double stands between -/
theorem fq_between {c d w o k Z : Nat} (hd : 0 < d) (g1 : d < 2 ^ 24) (f1 : c < 2 ^ 24) (hw : 821 ≤ w) (ho : o % 2 = 1) (ho25 : o < 2 ^ 25) (hk0 : 924 ≤ k) (hk1 : k ≤ 2000) (hZ : Z = o * 2 ^ k)
    (hle : ∀ h j : Nat, h < 2 ^ 53 → j ≤ 2045 → c * 2 ^ w ≤ h * 2 ^ j * d → Z ≤ h * 2 ^ j) (hge : ∀ h j : Nat, h < 2 ^ 53 → j ≤ 2045 → h * 2 ^ j * d ≤ c * 2 ^ w → h * 2 ^ j ≤ Z) : c * 2 ^ w = o * 2 ^ k * d := by
  have nlt : ∀ h j : Nat, h < 2 ^ 53 → j ≤ 2045 → c * 2 ^ w ≤ h * 2 ^ j * d → ¬ h * 2 ^ j < o * 2 ^ k := fun h j h1 h2 h3 h4 => by
    have h5 := hle h j h1 h2 h3
    rw [hZ] at h5
    exact absurd h4 (Nat.not_lt.mpr h5)
  have ngt : ∀ h j : Nat, h < 2 ^ 53 → j ≤ 2045 → h * 2 ^ j * d ≤ c * 2 ^ w → ¬ o * 2 ^ k < h * 2 ^ j := fun h j h1 h2 h3 h4 => by
    have h5 := hge h j h1 h2 h3
    rw [hZ] at h5
    exact absurd h4 (Nat.not_lt.mpr h5)
  clear hle hge hZ
  have ho1 : 1 ≤ o := by omega
  have pk25 : 2 ^ k = 2 ^ 25 * 2 ^ (k - 25) := fq_pw (by omega)
  have pkp : 0 < 2 ^ (k - 25) := Nat.two_pow_pos _
  have vlo : (o * 2 ^ 25 - o) * 2 ^ (k - 25) < o * 2 ^ k := by
    rw [pk25, ← Nat.mul_assoc]
    exact Nat.mul_lt_mul_of_pos_right (by omega) pkp
  have vhi : o * 2 ^ k < (o * 2 ^ 25 + o) * 2 ^ (k - 25) := by
    rw [pk25, ← Nat.mul_assoc]
    exact Nat.mul_lt_mul_of_pos_right (by omega) pkp
  have vlo2 : (o * 2 ^ 25 - 2) * 2 ^ (k - 25) < o * 2 ^ k := by
    rw [pk25, ← Nat.mul_assoc]
    exact Nat.mul_lt_mul_of_pos_right (by omega) pkp
  have vhi2 : o * 2 ^ k < (o * 2 ^ 25 + 2) * 2 ^ (k - 25) := by
    rw [pk25, ← Nat.mul_assoc]
    exact Nat.mul_lt_mul_of_pos_right (by omega) pkp
  rcases Nat.le_total k w with hkw | hkw
  · -- whole half units
    obtain ⟨N, hN⟩ : ∃ N, N = c * 2 ^ (w - k) := ⟨_, rfl⟩
    have hNw : c * 2 ^ w = N * 2 ^ k := by rw [hN, Nat.mul_assoc, ← fq_pw (show (w - k) + k = w by omega)]
    have hTd : o * 2 ^ k * d = o * d * 2 ^ k := by rw [Nat.mul_right_comm]
    rw [hNw, hTd]
    rw [hNw] at nlt ngt
    rcases Nat.lt_trichotomy N (o * d) with g | g | g
    · exfalso
      refine nlt (o * 2 ^ 25 - 2) (k - 25) (by omega) (by omega) ?_ vlo2
      rw [Nat.mul_right_comm, Nat.sub_mul, Nat.mul_right_comm o, pk25, ← Nat.mul_assoc]
      apply Nat.mul_le_mul_right
      have : N + 1 ≤ o * d := g
      omega
    · rw [g]
    · exfalso
      refine ngt (o * 2 ^ 25 + 2) (k - 25) (by omega) (by omega) ?_ vhi2
      rw [Nat.mul_right_comm, Nat.add_mul, Nat.mul_right_comm o, pk25, ← Nat.mul_assoc]
      apply Nat.mul_le_mul_right
      omega
  · -- parts of half units
    obtain ⟨Dv, hDv⟩ : ∃ Dv, Dv = o * (d * 2 ^ (k - w)) := ⟨_, rfl⟩
    have hTd : o * 2 ^ k * d = Dv * 2 ^ w := by
      rw [hDv, Nat.mul_assoc o, Nat.mul_assoc o, Nat.mul_assoc d, ← Nat.pow_add]
      have : k - w + w = k := by omega
      rw [this, Nat.mul_comm d]
    rw [hTd]
    have pw25 : 2 ^ w = 2 ^ 25 * 2 ^ (w - 25) := fq_pw (by omega)
    have hod : o * d * 2 ^ (k - 25) = Dv * 2 ^ (w - 25) := by
      rw [hDv, Nat.mul_assoc o, Nat.mul_assoc o, Nat.mul_assoc d, ← fq_pw (show (k - w) + (w - 25) = k - 25 by omega)]
    rcases Nat.lt_trichotomy c Dv with g | g | g
    · exfalso
      by_cases g2 : 2 * c ≤ Dv
      · have pk1 : 2 ^ k = 2 * 2 ^ (k - 1) := fq_pw (a := 1) (by omega)
        have e1 : o * 2 ^ k * d = 2 * (o * 2 ^ (k - 1) * d) := by rw [pk1, Nat.mul_left_comm o, Nat.mul_assoc 2]
        have e2 : 2 * c * 2 ^ w ≤ Dv * 2 ^ w := Nat.mul_le_mul_right _ g2
        rw [Nat.mul_assoc] at e2
        refine nlt o (k - 1) (by omega) (by omega) (by omega) ?_
        have hpp : 0 < 2 ^ (k - 1) := Nat.two_pow_pos _
        rw [pk1, Nat.mul_left_comm]
        have : 0 < o * 2 ^ (k - 1) := Nat.mul_pos ho1 hpp
        omega
      · refine nlt (o * 2 ^ 25 - o) (k - 25) (by omega) (by omega) ?_ vlo
        have e1 : (o * 2 ^ 25 - o) * 2 ^ (k - 25) * d = (2 ^ 25 - 1) * (Dv * 2 ^ (w - 25)) := by
          rw [← hod]
          have : o * 2 ^ 25 - o = (2 ^ 25 - 1) * o := by rw [Nat.sub_mul, Nat.one_mul, Nat.mul_comm]
          rw [this, Nat.mul_assoc, Nat.mul_assoc, Nat.mul_assoc o, Nat.mul_comm d]
        rw [e1, pw25, ← Nat.mul_assoc, ← Nat.mul_assoc]
        apply Nat.mul_le_mul_right
        omega
    · rw [g]
    · exfalso
      refine ngt (o * 2 ^ 25 + o) (k - 25) (by omega) (by omega) ?_ vhi
      have e1 : (o * 2 ^ 25 + o) * 2 ^ (k - 25) * d = (2 ^ 25 + 1) * (Dv * 2 ^ (w - 25)) := by
        rw [← hod]
        have : o * 2 ^ 25 + o = (2 ^ 25 + 1) * o := by rw [Nat.add_mul, Nat.one_mul, Nat.mul_comm]
        rw [this, Nat.mul_assoc, Nat.mul_assoc, Nat.mul_assoc o, Nat.mul_comm d]
      rw [e1, pw25, ← Nat.mul_assoc, ← Nat.mul_assoc]
      apply Nat.mul_le_mul_right
      omega
/-- the quotient of two floats, in doubles, and then a float -/
theorem fq_div {a b : UInt32} (ha : FP.Core.FFin a) (hb : FP.Core.FFin b) (hz : ¬ FP.Core.FZero b) : FP.d2f (FP.ddiv (FP.f2d a) (FP.f2d b)) = FP.fdiv a b := by
  obtain ⟨s, c, q, c', q', a1, a2, a3, a4, a5, a6⟩ := fq_f2d ha
  obtain ⟨t, d, r, d', r', b1, b2, b3, b4, b5, b6⟩ := fq_f2d hb
  have hd : 0 < d := Nat.pos_of_ne_zero fun h => hz ⟨t, r, by rw [b1, h]⟩
  have hd' : 0 < d' := Nat.pos_of_ne_zero fun h => by have := b5.mpr h; omega
  obtain ⟨f1, f2, f3, f4⟩ := fq_fit32 a2
  obtain ⟨g1, g2, g3, g4⟩ := fq_fit32 b2
  have hq' : (-1074 : Int) ≤ q' := a4.2.1
  have hr' : (-1074 : Int) ≤ r' := b4.2.1
  rw [fq_jf2d ha, fq_jf2d hb]
  have hv : FP.Core.val64 (FP.Core.ddiv (FP.Core.f2d a) (FP.Core.f2d b)) = FP.Core.roundRatio FP.Core.b64 (s != t) c' d' (q' - r') := by
    rw [FP.Core.val64_ddiv, a3, b3]
    show (if d' = 0 then _ else _) = _
    rw [if_neg (by omega)]
  have hnn : FP.Core.dIsNaN (FP.Core.ddiv (FP.Core.f2d a) (FP.Core.f2d b)) = false := by
    rw [FP.Core.notNaN_iff, hv]; exact FP.Core.roundRatio_ne_nan _ _ _ _ _
  rw [fq_jd2f hnn]
  have hvf : FP.Core.val32 (FP.Core.fdiv a b) = FP.Core.roundRatio FP.Core.b32 (s != t) c d (q - r) := by
    rw [FP.Core.val32_fdiv, a1, b1]
    show (if d = 0 then _ else _) = _
    rw [if_neg (by omega)]
  apply FP.Core.val32_inj
  · rw [FP.Core.val32_d2f, hv]
    intro h
    exact FP.Core.roundRatio_ne_nan _ _ _ _ _ (FP.Core.round_nan.mp h)
  rw [FP.Core.val32_d2f, hv, hvf]
  -- the same ratio in the small units
  have hq64 : FP.Core.roundRatio FP.Core.b64 (s != t) c' d' (q' - r') = FP.Core.roundRatio FP.Core.b64 (s != t) (c * 2 ^ (q - r + 1074).toNat) d (-1074) := by
    rw [← fq_ratio (s != t) c hd f2 (by omega) (by omega)]
    apply FP.Core.roundRatio_congr hd' hd
    -- c' d 2^x = c d' 2^y, times 2^(q'+1074) 2^(r+1074) and the like
    have k1 : (c' * 2 ^ (q' + 1074).toNat) * (d * 2 ^ (r + 1074).toNat) = (c * 2 ^ (q + 1074).toNat) * (d' * 2 ^ (r' + 1074).toNat) := by rw [a6, b6]
    have k2 : c' * d * 2 ^ ((q' + 1074).toNat + (r + 1074).toNat) = c * d' * 2 ^ ((q + 1074).toNat + (r' + 1074).toNat) := by
      rw [Nat.pow_add, Nat.pow_add, Nat.mul_mul_mul_comm c' d, Nat.mul_mul_mul_comm c d', k1]
    obtain ⟨x, hx⟩ : ∃ x, x = (q' + 1074).toNat + (r + 1074).toNat := ⟨_, rfl⟩
    obtain ⟨y, hy⟩ : ∃ y, y = (q + 1074).toNat + (r' + 1074).toNat := ⟨_, rfl⟩
    rw [← hx, ← hy] at k2
    have e1 : (q' - r' - (q - r)).toNat = x - y := by omega
    have e2 : (q - r - (q' - r')).toNat = y - x := by omega
    rw [e1, e2]
    have hp : 0 < 2 ^ (min x y) := Nat.two_pow_pos _
    apply Nat.eq_of_mul_eq_mul_right hp
    rw [Nat.mul_assoc (c' * d), Nat.mul_assoc (c * d'), ← Nat.pow_add, ← Nat.pow_add]
    have e3 : x - y + min x y = x := by omega
    have e4 : y - x + min x y = y := by omega
    rw [e3, e4, k2]
  rw [hq64, fq_ratio (f := FP.Core.b32) (s != t) c hd f2 (by omega) (by omega)]
  obtain ⟨w, hw⟩ : ∃ w, w = (q - r + 1074).toNat := ⟨_, rfl⟩
  rw [← hw]
  by_cases hc : c = 0
  · subst hc
    rw [Nat.zero_mul]
    have z1 : FP.Core.roundRatio FP.Core.b64 (s != t) 0 d (-1074) = .fin (s != t) 0 FP.Core.b64.qmin := by unfold FP.Core.roundRatio; rw [if_pos rfl]
    rw [z1]
    show FP.Core.roundRatio FP.Core.b32 (s != t) 0 1 _ = _
    unfold FP.Core.roundRatio
    rw [if_pos rfl, if_pos rfl]
  have hc0 : 0 < c := Nat.pos_of_ne_zero hc
  have hw0 : 821 ≤ w ∧ w ≤ 1327 := by omega
  have hU : 0 < c * 2 ^ w := Nat.mul_pos hc0 (Nat.two_pow_pos _)
  have hlow : 2 ^ (w - 24) * 2 ^ 24 = 2 ^ w := (fq_pw (by omega)).symm
  have hh24 : 2 ^ (w + 24) = 2 ^ w * 2 ^ 24 := Nat.pow_add _ _ _
  have k800 : 2 ^ (w - 24) * d ≤ c * 2 ^ w := by
    rw [← hlow]
    have h1 : 2 ^ (w - 24) * d ≤ 2 ^ (w - 24) * 2 ^ 24 := Nat.mul_le_mul_left _ (by omega)
    have h2 : 1 * (2 ^ (w - 24) * 2 ^ 24) ≤ c * (2 ^ (w - 24) * 2 ^ 24) := Nat.mul_le_mul_right _ hc0
    omega
  have k2000 : c * 2 ^ w ≤ 2 ^ (w + 24) * d := by
    rw [hh24]
    have h1 : c * 2 ^ w ≤ 2 ^ 24 * 2 ^ w := Nat.mul_le_mul_right _ (by omega)
    have h2 : (2 ^ w * 2 ^ 24) * 1 ≤ (2 ^ w * 2 ^ 24) * d := Nat.mul_le_mul_left _ hd
    rw [Nat.mul_comm (2 ^ 24)] at h1
    omega
  obtain ⟨C, r2, hY, hfit, hC, hr2⟩ := fq_fin (s != t) hd (by omega) (by omega) k800 k2000
  rw [hY]
  refine fq_dr hU hd hC hr2 hY ?_ ?_
  · have h1 : 2 ^ (w + 24) < 2 ^ 2000 := Nat.pow_lt_pow_right (by decide) (by omega)
    have h2 : 2 ^ (w + 24) * d < 2 ^ 2000 * d := Nat.mul_lt_mul_of_pos_right h1 hd
    rw [Nat.mul_comm d]
    exact Nat.lt_of_le_of_lt k2000 h2
  · intro o k ho ho25 hk hk0 hk1 hZ
    exact fq_between hd g1 f1 (by omega) ho ho25 hk0 hk1 hZ (fun h j hh hj hle => fq_le hd hY hh hj hle) (fun h j hh hj hle => fq_ge hd hY hh hj hle)
