/-! ===== lN n to 2^64: shifts, and, or, masks, one bit ===== -/
theorem wb_tb (n : Nat) : (lN n).toBitVec = BitVec.ofNat 64 n := rfl
theorem wb_inj {a b : Int64} (h : a.toBitVec = b.toBitVec) : a = b := Int64.toBitVec_inj.mp h
theorem wb_tn {n : Nat} (h : n < 2 ^ 64) : (lN n).toBitVec.toNat = n := by rw [wb_tb, BitVec.toNat_ofNat, Nat.mod_eq_of_lt h]
theorem wb_of (x : Int64) : ∃ n, n < 2 ^ 64 ∧ x = lN n := ⟨x.toBitVec.toNat, x.toBitVec.isLt, wb_inj (by rw [wb_tb]; simp)⟩
theorem wb_of32 (x : Int32) : ∃ n, n < 2 ^ 32 ∧ x = nI n := ⟨x.toBitVec.toNat, x.toBitVec.isLt, Int32.toBitVec_inj.mp (by show _ = BitVec.ofNat 32 _; simp)⟩
theorem wb_c : ∀ k, k < 64 → ((nI k).toInt64 &&& 63) = lN k := by decide +kernel
theorem wb_cu : ∀ k, k < 64 → ((nI k).toInt64.toUInt64 &&& Int64.toUInt64 63) = UInt64.ofNat k := by decide +kernel
theorem wb_sm : ∀ k, k < 64 → (BitVec.ofNat 64 k).smod 64 = BitVec.ofNat 64 k := by decide +kernel
theorem wb_pw {a b : Nat} (h : a ≤ b) : 2 ^ b = 2 ^ a * 2 ^ (b - a) := by rw [← Nat.pow_add]; congr 1; omega
theorem wb_lt2 {a b : Nat} (h : a < b) : 2 ^ a < 2 ^ b := Nat.pow_lt_pow_right (by decide) h
theorem wb_mod (n : Nat) : lN n = lN (n % 2 ^ 64) := wb_inj (by rw [wb_tb, wb_tb]; apply BitVec.eq_of_toNat_eq; rw [BitVec.toNat_ofNat, BitVec.toNat_ofNat, Nat.mod_mod])
theorem wb_shr {n k : Nat} (hn : n < 2 ^ 64) (hk : k < 64) : ((lN n).toUInt64 >>> ((nI k).toInt64.toUInt64 &&& Int64.toUInt64 63)).toInt64 = lN (n / 2 ^ k) := by
  rw [wb_cu k hk]
  apply wb_inj
  apply BitVec.eq_of_toNat_eq
  show ((lN n).toUInt64 >>> UInt64.ofNat k).toNat = (BitVec.ofNat 64 _).toNat
  have h1 : (UInt64.ofNat k).toNat = k := by
    show (BitVec.ofNat 64 k).toNat = k
    rw [BitVec.toNat_ofNat, Nat.mod_eq_of_lt (by omega)]
  have h2 : (lN n).toUInt64.toNat = n := wb_tn hn
  rw [UInt64.toNat_shiftRight, h1, h2, Nat.mod_eq_of_lt hk, Nat.shiftRight_eq_div_pow, BitVec.toNat_ofNat, Nat.mod_eq_of_lt (Nat.lt_of_le_of_lt (Nat.div_le_self _ _) hn)]
theorem wb_shl (n : Nat) {k : Nat} (hk : k < 64) : lN n <<< ((nI k).toInt64 &&& 63) = lN (n * 2 ^ k) := by
  rw [wb_c k hk]
  apply wb_inj
  rw [Int64.toBitVec_shiftLeft, wb_tb, wb_tb, wb_tb, wb_sm k hk]
  apply BitVec.eq_of_toNat_eq
  rw [BitVec.shiftLeft_eq', BitVec.toNat_shiftLeft, BitVec.toNat_ofNat, BitVec.toNat_ofNat, BitVec.toNat_ofNat, Nat.mod_eq_of_lt (show k < 2 ^ 64 by omega), Nat.shiftLeft_eq, Nat.mul_mod, Nat.mod_mod, ← Nat.mul_mod]
theorem wb_and {a b : Nat} (ha : a < 2 ^ 64) (hb : b < 2 ^ 64) : lN a &&& lN b = lN (a &&& b) := by
  apply wb_inj
  rw [Int64.toBitVec_and, wb_tb, wb_tb, wb_tb]
  apply BitVec.eq_of_toNat_eq
  rw [BitVec.toNat_and, BitVec.toNat_ofNat, BitVec.toNat_ofNat, BitVec.toNat_ofNat, Nat.mod_eq_of_lt ha, Nat.mod_eq_of_lt hb, Nat.mod_eq_of_lt (Nat.and_lt_two_pow _ hb)]
theorem wb_or {a b : Nat} (ha : a < 2 ^ 64) (hb : b < 2 ^ 64) : lN a ||| lN b = lN (a ||| b) := by
  apply wb_inj
  rw [Int64.toBitVec_or, wb_tb, wb_tb, wb_tb]
  apply BitVec.eq_of_toNat_eq
  rw [BitVec.toNat_or, BitVec.toNat_ofNat, BitVec.toNat_ofNat, BitVec.toNat_ofNat, Nat.mod_eq_of_lt ha, Nat.mod_eq_of_lt hb, Nat.mod_eq_of_lt (Nat.or_lt_two_pow ha hb)]
theorem wb_mask {n k : Nat} (hn : n < 2 ^ 64) (hk : k < 64) : lN n &&& lN (2 ^ k - 1) = lN (n % 2 ^ k) := by
  rw [wb_and hn (by have := wb_lt2 hk; omega), Nat.and_two_pow_sub_one_eq_mod]
theorem wb_a1 {n : Nat} (hn : n < 2 ^ 64) : lN n &&& 1 = lN (n % 2) := wb_mask (k := 1) hn (by decide)
theorem wb_bit {n k : Nat} (hn : n < 2 ^ 64) (hk : k < 64) : ((lN n).toUInt64 >>> ((nI k).toInt64.toUInt64 &&& Int64.toUInt64 63)).toInt64 &&& 1 = lN (n / 2 ^ k % 2) := by
  rw [wb_shr hn hk, wb_a1 (Nat.lt_of_le_of_lt (Nat.div_le_self _ _) hn)]
/-! ===== lN: masks, 'or' of parts that don't overlap is a sum ===== -/
theorem u_tn {n : Nat} (h : n < 2 ^ 64) : (UInt64.ofNat n).toNat = n := Nat.mod_eq_of_lt h
theorem g_and {a b c : Nat} (ha : a < 2 ^ 64) (hb : b < 2 ^ 64) (hc : a &&& b = c) : lN a &&& lN b = lN c := by
  subst hc
  have h : UInt64.ofNat a &&& UInt64.ofNat b = UInt64.ofNat (a &&& b) := UInt64.toNat_inj.mp (by rw [UInt64.toNat_and, u_tn ha, u_tn hb, u_tn (Nat.and_lt_two_pow a hb)])
  have h2 := congrArg UInt64.toInt64 h
  exact h2
theorem g_and1 {a : Nat} (ha : a < 2 ^ 64) : lN a &&& 1 = lN (a % 2) := g_and (b := 1) ha (by decide) (Nat.and_two_pow_sub_one_eq_mod a 1)
theorem g_mask {a s p : Nat} (hp : 2 ^ s = p) (hs : s < 64) (ha : a < 2 ^ 64) : lN a &&& lN (p - 1) = lN (a % p) := by
  subst hp
  have := Nat.pow_lt_pow_right (show 1 < 2 by decide) hs
  exact g_and ha (by omega) (Nat.and_two_pow_sub_one_eq_mod a s)
theorem g_or {k p a b : Nat} (hp : 2 ^ k = p) (ha : a < p) (h : b * p + a < 2 ^ 64) : lN (b * p) ||| lN a = lN (b * p + a) := by
  subst hp
  have h1 : b * 2 ^ k ||| a = b * 2 ^ k + a := by rw [← Nat.shiftLeft_eq, Nat.shiftLeft_add_eq_or_of_lt ha]
  have h3 : UInt64.ofNat (b * 2 ^ k) ||| UInt64.ofNat a = UInt64.ofNat (b * 2 ^ k + a) := UInt64.toNat_inj.mp (by rw [UInt64.toNat_or, u_tn (by omega), u_tn (by omega), u_tn h, h1])
  have h2 := congrArg UInt64.toInt64 h3
  exact h2
theorem g_or' {k p a b : Nat} (hp : 2 ^ k = p) (ha : a < p) (h : a + b * p < 2 ^ 64) : lN a ||| lN (b * p) = lN (a + b * p) := by
  rw [Int64.or_comm, g_or hp ha (by omega), Nat.add_comm]
theorem g_ushr {a k p : Nat} {y : UInt64} (hy : y = UInt64.ofNat k) (hk : k < 64) (hp : 2 ^ k = p) (ha : a < 2 ^ 64) : ((lN a).toUInt64 >>> y).toInt64 = lN (a / p) := by
  subst hy hp
  have h : UInt64.ofNat a >>> UInt64.ofNat k = UInt64.ofNat (a / 2 ^ k) := UInt64.toNat_inj.mp (by rw [UInt64.toNat_shiftRight, u_tn ha, u_tn (by omega), u_tn (Nat.lt_of_le_of_lt (Nat.div_le_self _ _) ha), Nat.mod_eq_of_lt hk, Nat.shiftRight_eq_div_pow])
  have h2 := congrArg UInt64.toInt64 h
  exact h2
theorem g_shl {a k p : Nat} {y : Int64} (hy : y.toBitVec.smod 64 = BitVec.ofNat 64 k) (hk : k < 64) (hp : 2 ^ k = p) (ha : a < 2 ^ 64) : lN a <<< y = lN (a * p) := by
  subst hp
  apply Int64.toBitVec_inj.mp
  rw [Int64.toBitVec_shiftLeft, hy]
  apply BitVec.eq_of_toNat_eq
  have hb : (lN a).toBitVec.toNat = a := Nat.mod_eq_of_lt ha
  have hk' : (BitVec.ofNat 64 k).toNat = k := Nat.mod_eq_of_lt (by omega)
  have h : ((lN a).toBitVec <<< BitVec.ofNat 64 k).toNat = (a * 2 ^ k) % 2 ^ 64 := by simp only [BitVec.shiftLeft_eq', BitVec.toNat_shiftLeft, hb, hk', Nat.shiftLeft_eq]
  exact h
/-! ===== lN to 2^62 under >> and >>> ===== -/
theorem pf_lI {a : Nat} (h : a < 2 ^ 63) : (lN a).toInt = (a : Int) := lg_ofNat_toInt h
theorem pf_shr {a d : Nat} {D : Int64} (hD : (D.toBitVec.smod 64).toNat = d) (h : a < 2 ^ 62) : lN a >>> D = lN (a / 2 ^ d) := by
  have hd : a / 2 ^ d ≤ a := Nat.div_le_self _ _
  apply Int64.toInt_inj.mp
  have e : (lN a >>> D).toInt = (lN a).toInt >>> d := by
    rw [← hD]
    exact BitVec.toInt_sshiftRight ..
  rw [e, Int.shiftRight_eq_div_pow, pf_lI (by omega), pf_lI (by omega)]
  rfl
theorem pf_ushr {a d : Nat} {D : UInt64} (hD : D.toNat % 64 = d) (h : a < 2 ^ 62) : ((lN a).toUInt64 >>> D).toInt64 = lN (a / 2 ^ d) := by
  have hd : a / 2 ^ d ≤ a := Nat.div_le_self _ _
  have e : (lN a).toUInt64 >>> D = UInt64.ofNat (a / 2 ^ d) := UInt64.toNat_inj.mp (by
    rw [UInt64.toNat_shiftRight, hD, Nat.shiftRight_eq_div_pow, UInt64.toNat_ofNat']
    show (UInt64.ofNat a).toNat / 2 ^ d = _
    rw [UInt64.toNat_ofNat', Nat.mod_eq_of_lt (by omega), Nat.mod_eq_of_lt (by omega)])
  rw [e]
  rfl
/-! ===== long acts on numbers ===== -/
theorem iw_nat (k : Nat) : iw (k : Int) = nI k := by
  apply Int32.toBitVec_inj.mp
  show BitVec.ofInt 32 (k : Int) = BitVec.ofNat 32 k
  exact BitVec.ofInt_natCast ..
theorem jl_shl (n : Nat) {k : Nat} (hk : k < 64) : jlshl (lN n) (k : Int) = lN (n * 2 ^ k) := by
  unfold jlshl; rw [iw_nat]; exact wb_shl n hk
theorem jl_shr {n k : Nat} (hn : n < 2 ^ 62) (hk : k < 64) : jlshr (lN n) (k : Int) = lN (n / 2 ^ k) := by
  unfold jlshr; rw [iw_nat, wb_c k hk]
  refine pf_shr ?_ hn
  rw [wb_tb, wb_sm k hk, BitVec.toNat_ofNat]; omega
theorem jl_ushr {n k : Nat} (hn : n < 2 ^ 64) (hk : k < 64) : jlushr (lN n) (k : Int) = lN (n / 2 ^ k) := by
  unfold jlushr; rw [iw_nat]; exact wb_shr hn hk
theorem lN_lt63 {a b : Nat} (ha : a < 2 ^ 63) (hb : b < 2 ^ 63) : lN a < lN b ↔ a < b := by
  rw [Int64.lt_iff_toInt_lt, pf_lI ha, pf_lI hb]; omega
theorem lN_le63 {a b : Nat} (ha : a < 2 ^ 63) (hb : b < 2 ^ 63) : lN a ≤ lN b ↔ a ≤ b := by
  rw [Int64.le_iff_toInt_le, pf_lI ha, pf_lI hb]; omega
theorem lN_i32 {n : Nat} (h : n < 2 ^ 31) : (lN n).toInt32.toInt = (n : Int) := by
  rw [lN_i, nI_toInt h]
/-! ===== Double.doubleToLongBits, Float.floatToIntBits, Math.max ===== -/
section JDK
variable {σ : Hp} {Q : Option PV → Hp → Prop}
theorem cJD_isNaN {x : UInt64} (hx : vf_n64 x) (hQ : Q (some (vI 0)) σ) : Sp mJD_isNaN [vD x] σ Q := by
  have h : FP.dcmp x x = some .eq := FP.Core.dcmp_refl (vn64_to hx)
  refine j_dload_n (p2 := 1) dJD_isNaN_0 rfl rfl ?_
  refine j_dload_n (p2 := 2) dJD_isNaN_1 rfl rfl ?_
  refine j_dcmp_l_eq (p1 := 3) (p2 := 6) (tg := 10) dJD_isNaN_2 rfl dJD_isNaN_3 rfl (by decide) (fun h2 => ?_) (fun h2 => ?_)
  · refine j_iconst (p2 := 11) dJD_isNaN_10 rfl ?_
    refine j_zreturn dJD_isNaN_11 rfl (by first | exact Or.inl rfl | exact Or.inr rfl | exact bI_or _ | omega) (by first | exact hQ | exact absurd h h2)
  · refine j_iconst (p2 := 7) dJD_isNaN_6 rfl ?_
    refine j_goto (p2 := 11) dJD_isNaN_7 (by decide) ?_
    refine j_zreturn dJD_isNaN_11 rfl (by first | exact Or.inl rfl | exact Or.inr rfl | exact bI_or _ | omega) (by first | exact hQ | exact absurd h h2)
theorem cJD_doubleToLongBits {x : UInt64} (hx : vf_n64 x) (hQ : Q (some (vL x.toInt64)) σ) : Sp mJD_doubleToLongBits [vD x] σ Q := by
  refine j_dload_n (p2 := 1) dJD_doubleToLongBits_0 rfl rfl ?_
  refine j_callS (m' := mJD_isNaN) (As := [_]) (p2 := 4) dJD_doubleToLongBits_1 rfl ml_JD_122 ok_mJD_isNaN sm_mJD_isNaN rfl rfl (Nat.le_of_ble_eq_true rfl) (Nat.le_of_ble_eq_true rfl) ⟨(Nat.le_of_ble_eq_true rfl), (Nat.le_of_ble_eq_true rfl)⟩ ?_
  refine cJD_isNaN hx ?_
  refine (?_ : J _ _ _ (vI (bI false) :: []) _ _)
  refine j_ifb_ne (p2 := 7) (tg := 12) dJD_doubleToLongBits_4 rfl (by decide) (fun h4 => ?_) (fun h4 => ?_)
  · refine j_ldc2 (p2 := 15) dJD_doubleToLongBits_12 rfl cw_JD_137 ?_
    refine j_lreturn dJD_doubleToLongBits_15 rfl (by first | exact hQ | (cases h4))
  · refine j_dload_n (p2 := 8) dJD_doubleToLongBits_7 rfl rfl ?_
    refine j_rawD (p2 := 11) dJD_doubleToLongBits_8 rfl ml_JD_134 (Nat.le_of_ble_eq_true rfl) (Nat.le_of_ble_eq_true rfl) ?_
    refine j_lreturn dJD_doubleToLongBits_11 rfl (by first | exact hQ | (cases h4))
theorem cJF_isNaN {x : UInt32} (hx : vf_n32 x) (hQ : Q (some (vI 0)) σ) : Sp mJF_isNaN [vF x] σ Q := by
  have h : FP.fcmp x x = some .eq := FP.Core.fcmp_refl (vn32_to hx)
  refine j_fload_n (p2 := 1) dJF_isNaN_0 rfl rfl ?_
  refine j_fload_n (p2 := 2) dJF_isNaN_1 rfl rfl ?_
  refine j_fcmp_l_eq (p1 := 3) (p2 := 6) (tg := 10) dJF_isNaN_2 rfl dJF_isNaN_3 rfl (by decide) (fun h2 => ?_) (fun h2 => ?_)
  · refine j_iconst (p2 := 11) dJF_isNaN_10 rfl ?_
    refine j_zreturn dJF_isNaN_11 rfl (by first | exact Or.inl rfl | exact Or.inr rfl | exact bI_or _ | omega) (by first | exact hQ | exact absurd h h2)
  · refine j_iconst (p2 := 7) dJF_isNaN_6 rfl ?_
    refine j_goto (p2 := 11) dJF_isNaN_7 (by decide) ?_
    refine j_zreturn dJF_isNaN_11 rfl (by first | exact Or.inl rfl | exact Or.inr rfl | exact bI_or _ | omega) (by first | exact hQ | exact absurd h h2)
theorem cJF_floatToIntBits {x : UInt32} (hx : vf_n32 x) (hQ : Q (some (vI x.toInt32.toInt)) σ) : Sp mJF_floatToIntBits [vF x] σ Q := by
  refine j_fload_n (p2 := 1) dJF_floatToIntBits_0 rfl rfl ?_
  refine j_callS (m' := mJF_isNaN) (As := [_]) (p2 := 4) dJF_floatToIntBits_1 rfl ml_JF_59 ok_mJF_isNaN sm_mJF_isNaN rfl rfl (Nat.le_of_ble_eq_true rfl) (Nat.le_of_ble_eq_true rfl) ⟨(Nat.le_of_ble_eq_true rfl), (Nat.le_of_ble_eq_true rfl)⟩ ?_
  refine cJF_isNaN hx ?_
  refine (?_ : J _ _ _ (vI (bI false) :: []) _ _)
  refine j_ifb_ne (p2 := 7) (tg := 12) dJF_floatToIntBits_4 rfl (by decide) (fun h4 => ?_) (fun h4 => ?_)
  · refine j_ldc (p2 := 14) dJF_floatToIntBits_12 rfl cw_JF_77 ?_
    refine j_ireturn dJF_floatToIntBits_14 rfl (by first | exact hQ | (cases h4))
  · refine j_fload_n (p2 := 8) dJF_floatToIntBits_7 rfl rfl ?_
    refine j_rawF (p2 := 11) dJF_floatToIntBits_8 rfl ml_JF_74 (Nat.le_of_ble_eq_true rfl) (Nat.le_of_ble_eq_true rfl) ?_
    refine j_ireturn dJF_floatToIntBits_11 rfl (by first | exact hQ | (cases h4))
theorem cJA_max {a b : Int} (ha : inR a) (hb : inR b) (hQ : Q (some (vI (max a b))) σ) : Sp mJA_max [vI a, vI b] σ Q := by
  refine j_iload_n (p2 := 1) dJA_max_0 rfl rfl ?_
  refine j_iload_n (p2 := 2) dJA_max_1 rfl rfl ?_
  refine j_icmp_lt (p2 := 5) (tg := 9) dJA_max_2 rfl (by decide) (by constructor <;> omega) (by constructor <;> omega) (fun h2 => ?_) (fun h2 => ?_)
  · refine j_iload_n (p2 := 10) dJA_max_9 rfl rfl ?_
    refine j_ireturn dJA_max_10 rfl (Q_of hQ (by congr 2; omega) rfl)
  · refine j_iload_n (p2 := 6) dJA_max_5 rfl rfl ?_
    refine j_goto (p2 := 10) dJA_max_6 (by decide) ?_
    refine j_ireturn dJA_max_10 rfl (Q_of hQ (by congr 2; omega) rfl)
end JDK
