/-! ===== a sum is -0.0 only of such parts ===== -/
theorem sum_zv {x y : UInt64} (hx : FP.Core.DFin x) (hy : FP.Core.DFin y) (h : FP.Core.zval FP.Core.b64 (FP.Core.val64 (FP.dadd x y)) = 0) : FP.Core.zval FP.Core.b64 (FP.Core.val64 x) + FP.Core.zval FP.Core.b64 (FP.Core.val64 y) = 0 := by
  obtain ⟨s, c, q, e1⟩ := hx
  obtain ⟨t, d, r, e2⟩ := hy
  have hsum : FP.Core.val64 (FP.dadd x y) = FP.Core.round FP.Core.b64 (FP.Core.exactSum (.fin s c q) (.fin t d r)) := by
    show FP.Core.val64 (FP.Core.dadd x y) = _
    rw [FP.Core.val64_dadd, e1, e2]
  have fx : FP.Core.fits FP.Core.b64 (.fin s c q) := e1 ▸ FP.Core.val64_fits x
  have fy : FP.Core.fits FP.Core.b64 (.fin t d r) := e2 ▸ FP.Core.val64_fits y
  obtain ⟨sg, n, e, k1, k2, k3⟩ := FP.Core.sum_units fx fy
  rw [e1, e2]
  rw [hsum] at h
  apply Classical.byContradiction
  intro hne
  rcases Int.lt_or_gt_of_ne hne with g | g
  · have hV : FP.Core.fits FP.Core.b64 (FP.Core.val64 9223372036854775809) := FP.Core.val64_fits _
    have hV1 : FP.Core.zval FP.Core.b64 (FP.Core.val64 9223372036854775809) = -1 := by decide +kernel
    have hle := FP.Core.zval_round_le FP.Core.good_b64 (s := sg) (c := n) (q := e) (e0 := FP.Core.b64.qmin) hV (by decide +kernel) (Int.le_refl _) k2 (by
      rw [hV1, k3, Int.sub_self]
      show _ ≤ (-1 : Int) * ((2 ^ (0 : Int).toNat : Nat) : Int)
      rw [show ((2 ^ (0 : Int).toNat : Nat) : Int) = 1 from rfl]
      omega)
    rw [← k1, hV1, h] at hle
    exact absurd hle (by decide)
  · have hV : FP.Core.fits FP.Core.b64 (FP.Core.val64 1) := FP.Core.val64_fits 1
    have hV1 : FP.Core.zval FP.Core.b64 (FP.Core.val64 1) = 1 := by decide +kernel
    have hge := FP.Core.zval_round_ge FP.Core.good_b64 (s := sg) (c := n) (q := e) (e0 := FP.Core.b64.qmin) hV (by decide +kernel) (Int.le_refl _) k2 (by
      rw [hV1, k3, Int.sub_self]
      show (1 : Int) * ((2 ^ (0 : Int).toNat : Nat) : Int) ≤ _
      rw [show ((2 ^ (0 : Int).toNat : Nat) : Int) = 1 from rfl]
      omega)
    rw [← k1, hV1, h] at hge
    exact absurd hge (by decide)
theorem sum_m0 {x y : UInt64} (hx : FP.Core.DFin x) (hy : FP.Core.DFin y) (h : FP.dadd x y = 9223372036854775808) : x = 9223372036854775808 ∧ y = 9223372036854775808 := by
  have hz := sum_zv hx hy (by rw [h]; decide +kernel)
  have nx := (FP.Core.notNaN_iff _).mp hx.notNaN
  have ny := (FP.Core.notNaN_iff _).mp hy.notNaN
  by_cases g : FP.Core.zval FP.Core.b64 (FP.Core.val64 x) = 0
  · have g2 : FP.Core.zval FP.Core.b64 (FP.Core.val64 y) = 0 := by omega
    have a1 := (FP.Core.zval_eq_zero nx).mp g
    have a2 := (FP.Core.zval_eq_zero ny).mp g2
    have l1 : x.toNat < 2 ^ 64 := x.toNat_lt
    have l2 : y.toNat < 2 ^ 64 := y.toNat_lt
    have b1 : x = 0 ∨ x = 9223372036854775808 := by
      rcases Nat.eq_zero_or_pos x.toNat with z | z
      · exact Or.inl (UInt64.toNat_inj.mp z)
      · exact Or.inr (UInt64.toNat_inj.mp (by show x.toNat = 9223372036854775808; omega))
    have b2 : y = 0 ∨ y = 9223372036854775808 := by
      rcases Nat.eq_zero_or_pos y.toNat with z | z
      · exact Or.inl (UInt64.toNat_inj.mp z)
      · exact Or.inr (UInt64.toNat_inj.mp (by show y.toNat = 9223372036854775808; omega))
    rcases b1 with b1 | b1 <;> rcases b2 with b2 | b2 <;> rw [b1, b2] at h <;> first | (exfalso; revert h; decide +kernel) | exact ⟨b1, b2⟩
  · exfalso
    have hd : FP.dadd x y = FP.dsub x (FP.Core.dneg y) := by
      show FP.Core.dadd x y = FP.Core.dsub x (FP.Core.dneg y)
      rw [FP.Core.dsub_eq, FP.Core.dneg_dneg ny]
    have ey : FP.Core.zval FP.Core.b64 (FP.Core.val64 (FP.Core.dneg y)) = FP.Core.zval FP.Core.b64 (FP.Core.val64 x) := by
      rw [FP.Core.val64_dneg, FP.Core.zval_negate]; omega
    have nny : FP.Core.val64 (FP.Core.dneg y) ≠ .nan := by rw [FP.Core.val64_dneg]; exact fun q => ny (by rw [← FP.Core.negate_nan]; exact q)
    have hc : FP.Core.dcmp x (FP.Core.dneg y) = some .eq := FP.Core.dcmp_eq.mpr ⟨nx, nny, ey.symm⟩
    rw [FP.Core.dcmp_eq_key nx nny] at hc
    have gx : ¬ x.toNat % 2 ^ 63 = 0 := fun q => g ((FP.Core.zval_eq_zero nx).mpr q)
    have gy : ¬ (FP.Core.dneg y).toNat % 2 ^ 63 = 0 := fun q => g (by rw [← ey]; exact (FP.Core.zval_eq_zero nny).mpr q)
    have e : x = FP.Core.dneg y := by
      apply UInt64.toNat_inj.mp
      unfold FP.Core.dkey at hc
      have l1 : x.toNat < 2 ^ 64 := x.toNat_lt
      have l2 : (FP.Core.dneg y).toNat < 2 ^ 64 := UInt64.toNat_lt _
      split at hc <;> split at hc <;> omega
    obtain ⟨s, c, q, e1⟩ := hx
    have e2 : FP.dadd x y = FP.dconst0 := by
      rw [hd]
      show FP.Core.dsub x (FP.Core.dneg y) = _
      rw [← e]
      exact FP.Core.dsub_self e1
    rw [e2] at h
    exact absurd h (by decide +kernel)
