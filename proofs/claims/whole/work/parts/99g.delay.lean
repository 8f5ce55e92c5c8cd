/-! ===== a delay's setting ===== -/
theorem i2d_pos : ∀ n : Nat, n < 17 → 1 ≤ n → 0 < (FP.i2d (iw n)).toNat ∧ (FP.i2d (iw n)).toNat < 2 ^ 63 := by decide +kernel
theorem d_one64 : (0 : Int) < (FP.Core.one64 : Int) := by decide +kernel
theorem delay_set {s : UInt64} (hs : vf_n64 s) (h : isSet 11 s = true) : ∃ n : Nat, 1 ≤ n ∧ n ≤ 16 ∧ s = FP.i2d (iw n) ∧ (FP.d2i s).toInt = n := by
  have h : (decide (dwi s FP.dconst1 4625196817309499392) && decide (FP.dcmp s (FP.i2d (iw (FP.d2i s).toInt)) = some .eq)) = true := h
  rw [Bool.and_eq_true] at h
  have h1 := of_decide_eq_true h.1
  have h2 := of_decide_eq_true h.2
  obtain ⟨z, hz⟩ : ∃ z, z = FP.d2i s := ⟨_, rfl⟩
  rw [← hz] at h2 ⊢
  have ez : iw z.toInt = z := by unfold iw; exact Int32.ofInt_toInt z
  rw [ez] at h2
  have hsn := (FP.Core.ne_nan s).mpr (vn64.mp hs)
  have h2c : FP.Core.dcmp s (FP.Core.i2d z) = some .eq := h2
  have zw := FP.Core.DInt_zval (FP.Core.i2d_int z)
  have z1 := FP.Core.DInt_zval (FP.Core.i2d_int 1)
  have z16 := FP.Core.DInt_zval (FP.Core.i2d_int 16)
  have e1 : FP.Core.i2d 1 = FP.dconst1 := by decide +kernel
  have e16 : FP.Core.i2d 16 = 4625196817309499392 := by decide +kernel
  rw [e1] at z1
  rw [e16] at z16
  have hk := d_one64
  have q2 := (FP.Core.dcmp_eq.mp h2c).2.2
  rw [zw] at q2
  unfold dwi at h1
  have a1 : FP.Core.zval FP.Core.b64 (FP.Core.val64 FP.dconst1) ≤ FP.Core.zval FP.Core.b64 (FP.Core.val64 s) := by
    rcases h1.1 with w | w
    · exact Int.le_of_lt (FP.Core.dcmp_gt.mp w).2.2
    · exact Int.le_of_eq (FP.Core.dcmp_eq.mp w).2.2.symm
  have a2 : FP.Core.zval FP.Core.b64 (FP.Core.val64 s) ≤ FP.Core.zval FP.Core.b64 (FP.Core.val64 4625196817309499392) := by
    rcases h1.2 with w | w
    · exact Int.le_of_lt (FP.Core.dcmp_lt.mp w).2.2
    · exact Int.le_of_eq (FP.Core.dcmp_eq.mp w).2.2
  rw [q2, z1] at a1
  rw [q2, z16] at a2
  have b1 : (1 : Int) ≤ z.toInt := Int.le_of_mul_le_mul_right a1 hk
  have b2 : z.toInt ≤ (16 : Int) := Int.le_of_mul_le_mul_right a2 hk
  obtain ⟨n, hn⟩ : ∃ n : Nat, z.toInt = n := ⟨z.toInt.toNat, by omega⟩
  have hp := i2d_pos n (by omega) (by omega)
  have en : iw (n : Int) = z := by rw [← hn]; exact ez
  rw [en] at hp
  refine ⟨n, by omega, by omega, ?_, hn⟩
  rw [en]
  have hwn := FP.Core.DInt_ne_nan (FP.Core.i2d_int z)
  have hkey := (FP.Core.dcmp_eq_key hsn hwn).mp h2c
  apply UInt64.toNat_inj.mp
  have hp2 : 0 < (FP.Core.i2d z).toNat ∧ (FP.Core.i2d z).toNat < 2 ^ 63 := hp
  show s.toNat = (FP.Core.i2d z).toNat
  unfold FP.Core.dkey at hkey
  rw [if_neg (c := 2 ^ 63 ≤ (FP.Core.i2d z).toNat) (by omega)] at hkey
  by_cases g : 2 ^ 63 ≤ s.toNat
  · rw [if_pos g] at hkey; omega
  · rw [if_neg g] at hkey; omega
theorem sc_all : ∀ n : Nat, n < 17 → 1 ≤ n → ∀ o : Nat, o < 16 → (FP.dcmp (FP.i2d (iw ((o : Int) + 1))) (FP.i2d (iw n)) = some .lt ↔ o + 1 < n) := by decide +kernel
theorem sc_f : ∀ n : Nat, n < 17 → FP.f2d (FP.d2f (FP.i2d (iw n))) = FP.i2d (iw n) := by decide +kernel
theorem delay_sc {s : UInt64} (hs : vf_n64 s) (h : isSet 11 s = true) : (1 ≤ (FP.d2i s).toInt ∧ (FP.d2i s).toInt ≤ 16) ∧ SCmp (rndC false s) (FP.d2i s).toInt ∧ SCmp (rndC true s) (FP.d2i s).toInt := by
  obtain ⟨n, n1, n2, e, en⟩ := delay_set hs h
  rw [en]
  have base : SCmp s n := fun o x y => by
    have w := sc_all n (by omega) n1 o.toNat (by omega)
    rw [show ((o.toNat : Nat) : Int) = o by omega, ← e] at w
    rw [w]
    omega
  refine ⟨by omega, base, ?_⟩
  have er : rndC true s = s := by
    show FP.f2d (FP.d2f s) = s
    rw [e]
    exact sc_f n (by omega)
  rw [er]
  exact base
