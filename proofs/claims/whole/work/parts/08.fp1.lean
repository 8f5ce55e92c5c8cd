/-! ===== rounding twice: doubles between floats ===== -/
theorem fq_nh {A B h : Nat} (hB : 0 < B) (h1 : h * B ≤ 2 * A) (h2 : 2 * A ≤ (h + 1) * B) (ho : h % 2 = 1 → 2 * A ≠ h * B) (he : h % 2 = 0 → 2 * A ≠ (h + 1) * B) : FP.Core.nearest A B = (h + 1) / 2 := by
  obtain ⟨k, hk⟩ : ∃ k, h = 2 * k ∨ h = 2 * k + 1 := ⟨h / 2, by omega⟩
  have e0 : (h + 1) * B = h * B + B := Nat.succ_mul h B
  rw [e0] at h2 he
  rcases hk with rfl | rfl
  · have e1 : 2 * k * B = 2 * (k * B) := by rw [Nat.mul_assoc]
    have h4 := he (by omega)
    have hd : A / B = k := by
      apply Nat.div_eq_of_lt_le
      · rw [Nat.mul_comm] at e1; rw [Nat.mul_comm] at e1; omega
      · rw [Nat.succ_mul]; omega
    have hm := Nat.div_add_mod A B
    rw [hd, Nat.mul_comm] at hm
    unfold FP.Core.nearest
    rw [if_pos (by omega), hd]
    omega
  · have e1 : (2 * k + 1) * B = 2 * (k * B) + B := by rw [Nat.succ_mul, Nat.mul_assoc]
    have h4 := ho (by omega)
    by_cases hx : A = (k + 1) * B
    · rw [hx, FP.Core.nearest_exact _ hB]; omega
    · rw [Nat.succ_mul] at hx
      have hd : A / B = k := by
        apply Nat.div_eq_of_lt_le
        · omega
        · rw [Nat.succ_mul]; omega
      have hm := Nat.div_add_mod A B
      rw [hd, Nat.mul_comm] at hm
      unfold FP.Core.nearest
      rw [if_neg (by omega), if_pos (by omega), hd]
      omega
/-- a double of value h times 2 to the k - 1074 -/
theorem fq_rep (s : Bool) {h k : Nat} (hh : h < 2 ^ 53) (hk : k ≤ 2045) : ∃ V, FP.Core.fits FP.Core.b64 V ∧ V ≠ .nan ∧ FP.Core.zmag FP.Core.b64 V = h * 2 ^ k := by
  obtain ⟨c, q, h1, h2⟩ := FP.Core.round_exact FP.Core.good_b64 s (c := h) (q := (k : Int) - 1074) hh (by rw [FP.Core.qmin_b64]; omega) (by show _ ≤ (971 : Int); omega)
  refine ⟨_, FP.Core.round_fits FP.Core.good_b64 (.fin s h ((k : Int) - 1074)), ?_, ?_⟩
  · rw [h1]; exact fun q => by cases q
  · rw [h1]
    show FP.Core.inUnits c q FP.Core.b64.qmin = _
    rw [h2]
    unfold FP.Core.inUnits
    rw [FP.Core.qmin_b64]
    congr 2; omega
theorem fq_le {s : Bool} {U B c : Nat} {r : Int} (hB : 0 < B) (hY : FP.Core.roundRatio FP.Core.b64 s U B (-1074) = .fin s c r) {h k : Nat} (hh : h < 2 ^ 53) (hk : k ≤ 2045) (hle : U ≤ h * 2 ^ k * B) : FP.Core.inUnits c r (-1074) ≤ h * 2 ^ k := by
  obtain ⟨V, v1, v2, v3⟩ := fq_rep s hh hk
  have := FP.Core.zmag_roundRatio_le FP.Core.good_b64 (s := s) (A := U) (B := B) (e := -1074) (e0 := -1074) hB v1 v2 (by rw [FP.Core.qmin_b64]; omega) (by omega) (by
    rw [v3, FP.Core.qmin_b64]
    show U * 2 ^ 0 ≤ h * 2 ^ k * 2 ^ 0 * B
    rw [Nat.pow_zero, Nat.mul_one, Nat.mul_one]; exact hle)
  rw [hY, v3] at this
  exact this
theorem fq_ge {s : Bool} {U B c : Nat} {r : Int} (hB : 0 < B) (hY : FP.Core.roundRatio FP.Core.b64 s U B (-1074) = .fin s c r) {h k : Nat} (hh : h < 2 ^ 53) (hk : k ≤ 2045) (hle : h * 2 ^ k * B ≤ U) : h * 2 ^ k ≤ FP.Core.inUnits c r (-1074) := by
  obtain ⟨V, v1, v2, v3⟩ := fq_rep s hh hk
  have := FP.Core.zmag_roundRatio_ge FP.Core.good_b64 (s := s) (A := U) (B := B) (e := -1074) (e0 := -1074) hB v1 (by rw [FP.Core.qmin_b64]; omega) (by omega) (by
    rw [v3, FP.Core.qmin_b64]
    show h * 2 ^ k * 2 ^ 0 * B ≤ U * 2 ^ 0
    rw [Nat.pow_zero, Nat.mul_one, Nat.mul_one]; exact hle)
  rw [hY, v3] at this
  exact this
theorem fq_un {U : Nat} {q : Int} (h : -149 ≤ q) : FP.Core.unitsNum U (-1074) q = U := by
  unfold FP.Core.unitsNum
  have : (-1074 - q).toNat = 0 := by omega
  rw [this, Nat.pow_zero, Nat.mul_one]
theorem fq_ud {B k : Nat} {q : Int} (h : (k : Int) = q + 1073) : FP.Core.unitsDen B (-1074) q = 2 * (B * 2 ^ k) := by
  unfold FP.Core.unitsDen
  have : (q - (-1074)).toNat = k + 1 := by omega
  rw [this, Nat.pow_succ, Nat.mul_comm (2 ^ k) 2, Nat.mul_left_comm]
theorem fq_dr {s : Bool} {U B c : Nat} {r : Int} (hU : 0 < U) (hB : 0 < B) (hc : 0 < c) (hr : -1074 ≤ r) (hY : FP.Core.roundRatio FP.Core.b64 s U B (-1074) = .fin s c r) (hx : U < B * 2 ^ 2000)
    (hodd : ∀ t k : Nat, t % 2 = 1 → t < 2 ^ 25 → (k : Int) = FP.Core.quantum FP.Core.b32 U B (-1074) + 1073 → 924 ≤ k → k ≤ 2000 → FP.Core.inUnits c r (-1074) = t * 2 ^ k → U = t * 2 ^ k * B) :
    FP.Core.roundRatio FP.Core.b32 s c 1 r = FP.Core.roundRatio FP.Core.b32 s U B (-1074) := by
  obtain ⟨Z, hZ⟩ : ∃ Z, Z = FP.Core.inUnits c r (-1074) := ⟨_, rfl⟩
  have hZ0 : 0 < Z := by rw [hZ]; unfold FP.Core.inUnits; exact Nat.mul_pos hc (Nat.two_pow_pos _)
  have hcz : FP.Core.roundRatio FP.Core.b32 s c 1 r = FP.Core.roundRatio FP.Core.b32 s Z 1 (-1074) := by
    apply FP.Core.roundRatio_congr (by decide) (by decide)
    have e1 : (-1074 - r).toNat = 0 := by omega
    rw [hZ, e1, Nat.pow_zero, Nat.mul_one, Nat.mul_one, Nat.mul_one]
    rfl
  rw [hcz]
  rw [← hZ] at hodd
  obtain ⟨q, hq⟩ : ∃ q, q = FP.Core.quantum FP.Core.b32 U B (-1074) := ⟨_, rfl⟩
  have hq0 : -149 ≤ q := by rw [hq]; exact FP.Core.quantum_ge FP.Core.b32 U B (-1074)
  obtain ⟨k, hk⟩ : ∃ k : Nat, (k : Int) = q + 1073 := ⟨(q + 1073).toNat, by omega⟩
  have hud : FP.Core.unitsDen B (-1074) q = 2 * (B * 2 ^ k) := fq_ud hk
  have hlt : U < 2 ^ 24 * (2 * (B * 2 ^ k)) := by
    have h1 := FP.Core.quantum_below (f := FP.Core.b32) hU hB (-1074)
    rw [← hq] at h1
    have h2 := (FP.Core.units_below U B (-1074) q 24).mpr h1
    rw [fq_un hq0, hud] at h2
    exact h2
  have hnb : q = -149 ∨ 2 ^ 23 * (2 * (B * 2 ^ k)) ≤ U := by
    rcases FP.Core.quantum_not_below (f := FP.Core.b32) hU hB (-1074) with h1 | h1
    · left; rw [hq, h1]; rfl
    · right
      rw [← hq] at h1
      have h2 : ¬ FP.Core.unitsNum U (-1074) q < 2 ^ 23 * FP.Core.unitsDen B (-1074) q := fun h => h1 ((FP.Core.units_below U B (-1074) q 23).mp h)
      rw [fq_un hq0, hud] at h2
      exact Nat.not_lt.mp h2
  have hk1 : k ≤ 2000 := by
    rcases hnb with h | h
    · omega
    · rcases Nat.lt_or_ge 2000 k with g | g
      · exfalso
        have h3 : B * 2 ^ 2000 ≤ B * 2 ^ k := Nat.mul_le_mul_left _ (Nat.pow_le_pow_right (by decide) (by omega))
        generalize B * 2 ^ 2000 = y at h3 hx
        generalize B * 2 ^ k = z at h3 h
        omega
      · exact g
  rw [← hq] at hodd
  have hodd' := fun t h1 h2 h3 => hodd t k h1 h2 hk (by omega) hk1 h3
  obtain ⟨BP, hBP⟩ : ∃ BP, BP = B * 2 ^ k := ⟨_, rfl⟩
  have hBP0 : 0 < BP := by rw [hBP]; exact Nat.mul_pos hB (Nat.two_pow_pos _)
  obtain ⟨P, hP⟩ : ∃ P, P = 2 ^ k := ⟨_, rfl⟩
  have hP0 : 0 < P := by rw [hP]; exact Nat.two_pow_pos _
  rw [← hBP] at hlt hud hnb
  obtain ⟨h, hh⟩ : ∃ h, h = U / BP := ⟨_, rfl⟩
  have hdm := Nat.div_add_mod U BP
  rw [← hh, Nat.mul_comm] at hdm
  have hml := Nat.mod_lt U hBP0
  have hh25 : h < 2 ^ 25 := by
    rw [hh]; apply (Nat.div_lt_iff_lt_mul hBP0).mpr; omega
  have z1 : h * P ≤ Z := by
    rw [hZ, hP]
    apply fq_ge hB hY (by omega) (by omega)
    have : h * 2 ^ k * B = h * BP := by rw [hBP, Nat.mul_assoc, Nat.mul_comm (2 ^ k) B]
    omega
  have z2 : Z ≤ (h + 1) * P := by
    rw [hZ, hP]
    apply fq_le hB hY (by omega) (by omega)
    have : (h + 1) * 2 ^ k * B = h * BP + BP := by rw [hBP, Nat.mul_assoc, Nat.mul_comm (2 ^ k) B, Nat.succ_mul h]
    omega
  have z3 : U = h * BP → Z ≤ h * P := by
    intro hu
    rw [hZ, hP]
    apply fq_le hB hY (by omega) (by omega)
    have : h * 2 ^ k * B = h * BP := by rw [hBP, Nat.mul_assoc, Nat.mul_comm (2 ^ k) B]
    omega
  have hudZ : FP.Core.unitsDen 1 (-1074) q = 2 * P := by rw [fq_ud hk, Nat.one_mul, hP]
  by_cases hex : U = h * BP
  · have hZe : Z = h * P := Nat.le_antisymm (z3 hex) z1
    apply FP.Core.roundRatio_congr (by decide) hB
    show Z * B * 2 ^ 0 = U * 1 * 2 ^ 0
    rw [hZe, hex, hBP, hP, Nat.pow_zero, Nat.mul_one, Nat.mul_one, Nat.mul_one, Nat.mul_assoc, Nat.mul_comm (2 ^ k) B]
  · have hlo : h * BP < U := by omega
    have hhi : U < h * BP + BP := by omega
    have o1 : h % 2 = 1 → Z ≠ h * P := by
      intro o e
      apply hex
      rw [hodd' h o hh25 (by rw [e, hP]), hBP, Nat.mul_assoc, Nat.mul_comm (2 ^ k) B]
    have o2 : h % 2 = 0 → Z ≠ (h + 1) * P := by
      intro o e
      have h25 : h + 1 < 2 ^ 25 := by omega
      have := hodd' (h + 1) (by omega) h25 (by rw [e, hP])
      rw [Nat.mul_assoc, Nat.mul_comm (2 ^ k) B, ← hBP, Nat.succ_mul h] at this
      omega
    have nU : FP.Core.nearest U (2 * BP) = (h + 1) / 2 := by
      apply fq_nh (by omega)
      · rw [Nat.mul_left_comm]; omega
      · rw [Nat.succ_mul h, Nat.mul_left_comm]; omega
      · intro _; rw [Nat.mul_left_comm]; omega
      · intro _; rw [Nat.succ_mul h, Nat.mul_left_comm]; omega
    have nZ : FP.Core.nearest Z (2 * P) = (h + 1) / 2 := by
      rw [Nat.succ_mul h] at z2 o2
      apply fq_nh (by omega)
      · rw [Nat.mul_left_comm]; omega
      · rw [Nat.succ_mul h, Nat.mul_left_comm]; omega
      · intro o; have := o1 o; rw [Nat.mul_left_comm]; omega
      · intro o; have := o2 o; rw [Nat.succ_mul h, Nat.mul_left_comm]; omega
    have rU : FP.Core.roundRatio FP.Core.b32 s U B (-1074) = FP.Core.settle FP.Core.b32 s ((h + 1) / 2) q := by
      unfold FP.Core.roundRatio
      rw [if_neg (by omega), ← hq]
      unfold FP.Core.roundAt
      rw [fq_un hq0, hud, nU]
    rw [rU]
    by_cases hz : Z < 2 ^ 24 * (2 * P)
    · have qZ : FP.Core.quantum FP.Core.b32 Z 1 (-1074) = q := by
        apply FP.Core.quantum_eq hZ0 (by decide) hq0
        · have := (FP.Core.units_below Z 1 (-1074) q 24).mp (by rw [fq_un hq0, hudZ]; exact hz)
          exact this
        · rcases hnb with h1 | h1
          · left; exact h1
          · right
            intro hb
            have h2 := (FP.Core.units_below Z 1 (-1074) q 23).mpr hb
            rw [fq_un hq0, hudZ] at h2
            have h24 : 2 ^ 24 ≤ h := by
              rw [hh]; apply (Nat.le_div_iff_mul_le hBP0).mpr; omega
            have : 2 ^ 24 * P ≤ h * P := Nat.mul_le_mul_right _ h24
            omega
      unfold FP.Core.roundRatio
      rw [if_neg (by omega), qZ]
      unfold FP.Core.roundAt
      rw [fq_un hq0, hudZ, nZ]
    · have hP24 : 2 ^ 24 * (2 * P) = 2 ^ 25 * P := by omega
      have hh1 : h + 1 = 2 ^ 25 := by
        have h1 : 2 ^ 25 * P ≤ (h + 1) * P := by omega
        have := Nat.le_of_mul_le_mul_right h1 hP0
        omega
      have hZe : Z = 2 ^ 25 * P := by rw [hh1] at z2; omega
      have hPs : 2 ^ (k + 1) = 2 * P := by rw [hP, Nat.pow_succ, Nat.mul_comm]
      have hk2 : ((k + 1 : Nat) : Int) = (q + 1) + 1073 := by omega
      have hud2 : FP.Core.unitsDen 1 (-1074) (q + 1) = 2 * (2 * P) := by rw [fq_ud hk2, Nat.one_mul, hPs]
      have qZ : FP.Core.quantum FP.Core.b32 Z 1 (-1074) = q + 1 := by
        apply FP.Core.quantum_eq hZ0 (by decide) (by show (-149 : Int) ≤ q + 1; omega)
        · have := (FP.Core.units_below Z 1 (-1074) (q + 1) 24).mp (by rw [fq_un (by omega), hud2, hZe]; omega)
          exact this
        · right
          intro hb
          have h2 := (FP.Core.units_below Z 1 (-1074) (q + 1) 23).mpr hb
          rw [fq_un (by omega), hud2, hZe] at h2
          omega
      have nZ2 : FP.Core.nearest Z (2 * (2 * P)) = 2 ^ 23 := by
        have : Z = 2 ^ 23 * (2 * (2 * P)) := by omega
        rw [this, FP.Core.nearest_exact _ (by omega)]
      have hhalf : (h + 1) / 2 = 2 ^ 24 := by omega
      unfold FP.Core.roundRatio
      rw [if_neg (by omega), qZ]
      unfold FP.Core.roundAt
      rw [fq_un (by omega), hud2, nZ2, hhalf]
      unfold FP.Core.settle
      rw [if_pos (by decide), if_neg (by decide)]
      rfl
