/-! ===== the reference's square root ===== -/
/-- the first 2 k bits of the 108 bits of m and 54 zeros -/
def rtP (m k : Nat) : Nat := m * 2 ^ 54 / 4 ^ (54 - k)
theorem rtP_0 {m : Nat} (h : m < 2 ^ 54) : rtP m 0 = 0 := by
  unfold rtP
  apply Nat.div_eq_of_lt
  have : 4 ^ (54 - 0) = 2 ^ 54 * 2 ^ 54 := by decide
  rw [this]
  exact Nat.mul_lt_mul_of_pos_right h (by decide)
theorem rtP_54 (m : Nat) : rtP m 54 = m * 2 ^ 54 := by unfold rtP; rw [Nat.sub_self, Nat.pow_zero, Nat.div_one]
theorem rtP_s {m k : Nat} (hk : k < 54) : rtP m k = rtP m (k + 1) / 4 := by
  unfold rtP
  have : 4 ^ (54 - k) = 4 ^ (54 - (k + 1)) * 4 := by
    rw [← Nat.pow_succ]; congr 1; omega
  rw [this, Nat.div_div_eq_div_mul]
theorem rtP_lo {m k : Nat} (hk : k < 27) : rtP m (k + 1) = m / 2 ^ (52 - 2 * k) := by
  unfold rtP
  have e1 : 4 ^ (54 - (k + 1)) = 2 ^ (52 - 2 * k) * 2 ^ 54 := by
    rw [← Nat.pow_add, show (4 : Nat) = 2 ^ 2 from rfl, ← Nat.pow_mul]; congr 1; omega
  rw [e1, Nat.mul_comm (2 ^ (52 - 2 * k)), Nat.mul_comm m, Nat.mul_div_mul_left _ _ (by decide)]
theorem rtP_hi {m k : Nat} (hk : 27 ≤ k) (hk2 : k < 54) : rtP m (k + 1) % 4 = 0 := by
  unfold rtP
  have e1 : 2 ^ 54 = 4 ^ (54 - (k + 1)) * (4 * 4 ^ (k - 27)) := by
    rw [show (4 : Nat) * 4 ^ (k - 27) = 4 ^ (k - 27 + 1) from (Nat.pow_succ' ..).symm, ← Nat.pow_add, show 54 - (k + 1) + (k - 27 + 1) = 27 by omega]
  rw [e1, Nat.mul_left_comm, Nat.mul_div_cancel_left _ (Nat.pow_pos (by decide)), Nat.mul_left_comm, Nat.mul_mod_right]
theorem rt_step {P P' q rest : Nat} (h1 : q * q + rest = P) (h2 : rest ≤ 2 * q) (hP : P = P' / 4) :
    (4 * q + 1 ≤ 4 * rest + P' % 4 → (2 * q + 1) * (2 * q + 1) + (4 * rest + P' % 4 - (4 * q + 1)) = P' ∧ 4 * rest + P' % 4 - (4 * q + 1) ≤ 2 * (2 * q + 1)) ∧
    (¬ 4 * q + 1 ≤ 4 * rest + P' % 4 → (2 * q) * (2 * q) + (4 * rest + P' % 4) = P' ∧ 4 * rest + P' % 4 ≤ 2 * (2 * q)) := by
  have e1 : (2 * q) * (2 * q) = 4 * (q * q) := by rw [Nat.mul_mul_mul_comm]
  have e2 : (2 * q + 1) * (2 * q + 1) = 4 * (q * q) + 4 * q + 1 := by
    rw [Nat.mul_add, Nat.add_mul, e1]; omega
  rw [e1, e2]
  omega
theorem sqF_eq {n q : Nat} (h1 : q * q ≤ n) (h2 : n < (q + 1) * (q + 1)) : FP.Core.sqrtFloor n = q := by
  obtain ⟨g1, g2⟩ := FP.Core.sqrtFloor_spec n
  have hsq : ∀ a b : Nat, a < b → (a + 1) * (a + 1) ≤ b * b := fun a b h => Nat.mul_le_mul h h
  rcases Nat.lt_trichotomy (FP.Core.sqrtFloor n) q with h | h | h
  · have := hsq _ _ h; omega
  · exact h
  · have := hsq _ _ h; omega
section RT1
variable {σ : Hp} {Q : Option PV → Hp → Prop}
/-- scaled(r, p): r times 2 to the p -/
theorem cM_scaled {r : Nat} {p : Int} (hr : r ≤ 2 ^ 53) (hp : -1000 ≤ p ∧ p ≤ 900) (hQ : Q (some (vD (FP.Core.of64 (FP.Core.round FP.Core.b64 (.fin false r p))))) σ) : Sp mM_scaled [vL (lN r), vI p] σ Q := by
  obtain ⟨e, he⟩ : ∃ e : Nat, (e : Int) = p + 1023 := ⟨(p + 1023).toNat, by omega⟩
  have e1 : (iw (p + 1023)).toInt64 = lN e := by rw [← he, iw_nat, nI_l (by omega)]
  have e2 : jlshl (iw (p + 1023)).toInt64 52 = lN (e * 2 ^ 52) := by rw [e1]; exact jl_shl e (by decide)
  have hb : (lN (e * 2 ^ 52)).toUInt64.toNat = e * 2 ^ 52 := by
    show (lN (e * 2 ^ 52)).toBitVec.toNat = _
    rw [wb_tn (by omega)]
  have hsn : vn_snl2d (jlshl (iw (p + 1023)).toInt64 52) = false := by
    rw [e2]
    unfold vn_snl2d
    rw [Bool.and_eq_false_iff]
    left
    rw [decide_eq_false_iff_not]
    show ¬ (0x7ff0000000000000 : UInt64) < _
    rw [UInt64.lt_iff_toNat_lt, FP.Core.mask_toNat, hb]
    show ¬ 9218868437227405312 < e * 2 ^ 52 % 2 ^ 63
    omega
  -- the value of the power
  have hval : FP.Core.val64 (lN (e * 2 ^ 52)).toUInt64 = .fin false (2 ^ 52) (p - 52) := by
    unfold FP.Core.val64
    rw [hb]
    have ht : FP.Core.b64.tails = 2 ^ 52 := rfl
    have hx : FP.Core.b64.exps = 2048 := rfl
    have hE : FP.Core.fieldE FP.Core.b64 (e * 2 ^ 52) = e := by
      unfold FP.Core.fieldE; rw [ht, hx]; omega
    have hT : FP.Core.fieldT FP.Core.b64 (e * 2 ^ 52) = 0 := by
      unfold FP.Core.fieldT; rw [ht]; omega
    have hS : FP.Core.fieldS FP.Core.b64 (e * 2 ^ 52) = false := by
      unfold FP.Core.fieldS; rw [ht, hx]
      rw [beq_eq_false_iff_ne]; omega
    unfold FP.Core.decode
    rw [hE, hT, hS, hx, ht, if_neg (by omega), if_neg (by omega), FP.Core.qmin_b64]
    congr 1
    omega
  have hri : (lN r).toInt = (r : Int) := pf_lI (by omega)
  obtain ⟨s0, c0, q0, hl⟩ : ∃ s0 c0 q0, FP.Core.val64 (FP.Core.l2d (lN r)) = .fin s0 c0 q0 := FP.Core.l2d_fin (lN r)
  have hW : FP.Core.Whole (r : Int) (.fin s0 c0 q0) := by
    have := FP.Core.l2d_int (a := lN r) (by rw [hri]; omega)
    unfold FP.Core.DInt at this
    rw [hri, hl] at this; exact this
  have hs0 : s0 = false := by
    obtain ⟨c', q', h'⟩ := FP.Core.l2d_shape (lN r)
    rw [hl] at h'
    have h2 : s0 = decide ((lN r).toInt < 0) := by injection h'
    rw [h2, hri]; exact decide_eq_false (by omega)
  subst hs0
  have hW2 : c0 * 2 ^ q0.toNat = r * 2 ^ (-q0).toNat := by
    have h3 : ((c0 * 2 ^ q0.toNat : Nat) : Int) = (r : Int) * ((2 ^ (-q0).toNat : Nat) : Int) := hW
    rw [← Int.natCast_mul] at h3
    exact Int.ofNat.inj h3
  have hmul : FP.Core.val64 (FP.Core.dmul (FP.Core.l2d (lN r)) (lN (e * 2 ^ 52)).toUInt64) = FP.Core.round FP.Core.b64 (.fin false r p) := by
    rw [FP.Core.val64_dmul, hl, hval]
    show FP.Core.roundRatio FP.Core.b64 false (c0 * 2 ^ 52) 1 (q0 + (p - 52)) = FP.Core.roundRatio FP.Core.b64 false r 1 p
    apply FP.Core.roundRatio_congr (by decide) (by decide)
    rw [Nat.mul_one, Nat.mul_one]
    have a1 : (q0 + (p - 52) - p).toNat = (q0 - 52).toNat := by omega
    have a2 : (p - (q0 + (p - 52))).toNat = (52 - q0).toNat := by omega
    rw [a1, a2]
    rcases Int.le_total 0 q0 with g | g
    · have b1 : (-q0).toNat = 0 := by omega
      rw [b1, Nat.pow_zero, Nat.mul_one] at hW2
      rw [← hW2, Nat.mul_assoc, Nat.mul_assoc, ← Nat.pow_add, ← Nat.pow_add]
      congr 2; omega
    · have b1 : q0.toNat = 0 := by omega
      have b2 : (q0 - 52).toNat = 0 := by omega
      rw [b1, Nat.pow_zero, Nat.mul_one] at hW2
      rw [b2, hW2, Nat.pow_zero, Nat.mul_one, Nat.mul_assoc, ← Nat.pow_add]
      congr 2; omega
  have hnn : vf_n64 (FP.dmul (FP.l2d (lN r)) (lN (e * 2 ^ 52)).toUInt64) := by
    apply vn64_of
    rw [FP.Core.notNaN_iff, hmul]
    exact FP.Core.roundRatio_ne_nan _ _ _ _ _
  have hres : FP.dmul (FP.l2d (lN r)) (lN (e * 2 ^ 52)).toUInt64 = FP.Core.of64 (FP.Core.round FP.Core.b64 (.fin false r p)) := by
    rw [← hmul]
    exact (FP.Core.of64_val64 ((FP.Core.notNaN_iff _).mp (vn64_to hnn))).symm
  rw [← e2] at hres hnn
  refine j_lload_n (p2 := 1) dM_scaled_0 rfl rfl ?_
  refine j_l2d (p2 := 2) dM_scaled_1 rfl ?_
  refine j_dstore_n (p2 := 3) (lv' := [(2, _), (3, _)]) dM_scaled_2 rfl (Nat.le_of_ble_eq_true rfl) ⟨rfl, rfl, trivial⟩ ?_
  refine j_iload_n (p2 := 4) dM_scaled_3 rfl rfl ?_
  refine j_sipush (v := 1023) (p2 := 7) dM_scaled_4 rfl rfl ?_
  refine j_iadd (p2 := 8) dM_scaled_7 rfl ?_
  refine j_i2l (p2 := 9) dM_scaled_8 rfl ?_
  refine j_bipush (v := 52) (p2 := 11) dM_scaled_9 rfl rfl ?_
  refine j_lshl (p2 := 12) dM_scaled_11 rfl ?_
  refine j_ofBits (p2 := 15) dM_scaled_12 rfl ml_M_185 (Nat.le_of_ble_eq_true rfl) (Nat.le_of_ble_eq_true rfl) (by assumption) ?_
  refine j_dstore (p2 := 17) (lv' := [(3, _), (5, _)]) dM_scaled_15 rfl (Nat.le_of_ble_eq_true rfl) ⟨rfl, rfl, trivial⟩ ?_
  refine j_dload_n (p2 := 18) dM_scaled_17 rfl rfl ?_
  refine j_dload (p2 := 20) dM_scaled_18 rfl rfl ?_
  refine j_dmul (p2 := 21) dM_scaled_20 rfl (by assumption) ?_
  refine j_dreturn dM_scaled_21 rfl (by rw [hres]; exact hQ)
end RT1
