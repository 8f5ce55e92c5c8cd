/-! ===== ints: shifts and masks ===== -/
theorem nI_tb (n : Nat) : (nI n).toBitVec = BitVec.ofNat 32 n := rfl
theorem nI_inj {a b : Int32} (h : a.toBitVec = b.toBitVec) : a = b := Int32.toBitVec_inj.mp h
theorem nI_and {a b : Nat} (ha : a < 2 ^ 32) (hb : b < 2 ^ 32) : nI a &&& nI b = nI (a &&& b) := by
  apply nI_inj
  rw [Int32.toBitVec_and, nI_tb, nI_tb, nI_tb]
  apply BitVec.eq_of_toNat_eq
  rw [BitVec.toNat_and, BitVec.toNat_ofNat, BitVec.toNat_ofNat, BitVec.toNat_ofNat, Nat.mod_eq_of_lt ha, Nat.mod_eq_of_lt hb, Nat.mod_eq_of_lt (Nat.and_lt_two_pow _ hb)]
theorem nI_or {a b : Nat} (ha : a < 2 ^ 32) (hb : b < 2 ^ 32) : nI a ||| nI b = nI (a ||| b) := by
  apply nI_inj
  rw [Int32.toBitVec_or, nI_tb, nI_tb, nI_tb]
  apply BitVec.eq_of_toNat_eq
  rw [BitVec.toNat_or, BitVec.toNat_ofNat, BitVec.toNat_ofNat, BitVec.toNat_ofNat, Nat.mod_eq_of_lt ha, Nat.mod_eq_of_lt hb, Nat.mod_eq_of_lt (Nat.or_lt_two_pow ha hb)]
theorem nI_I {n : Nat} (h : n < 2 ^ 31) : (nI n).toInt = (n : Int) := by rw [← iw_nat, iw_toInt ⟨by omega, by omega⟩]
theorem i_sm : ∀ k, k < 32 → ((nI k &&& 31).toBitVec.smod 32).toNat = k := by decide +kernel
theorem pi_shr {a d : Nat} {D : Int32} (hD : (D.toBitVec.smod 32).toNat = d) (h : a < 2 ^ 31) : (nI a >>> D).toInt = ((a / 2 ^ d : Nat) : Int) := by
  have e : (nI a >>> D).toInt = (nI a).toInt >>> d := by
    rw [← hD]
    exact BitVec.toInt_sshiftRight ..
  rw [e, Int.shiftRight_eq_div_pow, nI_I h]
  rfl
theorem i_shr {n k : Nat} (hn : n < 2 ^ 31) (hk : k < 32) : jishr (n : Int) (k : Int) = ((n / 2 ^ k : Nat) : Int) := by
  unfold jishr
  rw [iw_nat, iw_nat]
  exact pi_shr (i_sm k hk) hn
theorem i_and {a b : Nat} (ha : a < 2 ^ 31) (hb : b < 2 ^ 31) : jiand (a : Int) (b : Int) = ((a &&& b : Nat) : Int) := by
  unfold jiand
  rw [iw_nat, iw_nat, nI_and (by omega) (by omega), nI_I (Nat.and_lt_two_pow _ hb)]
theorem i_or {a b : Nat} (ha : a < 2 ^ 31) (hb : b < 2 ^ 31) : jior (a : Int) (b : Int) = ((a ||| b : Nat) : Int) := by
  unfold jior
  rw [iw_nat, iw_nat, nI_or (by omega) (by omega), nI_I (Nat.or_lt_two_pow ha hb)]
theorem i_and1 {a : Nat} (ha : a < 2 ^ 31) : jiand (a : Int) 1 = ((a % 2 : Nat) : Int) := by
  have := i_and (b := 1) ha (by decide)
  rw [show a &&& 1 = a % 2 from Nat.and_two_pow_sub_one_eq_mod a 1] at this
  exact this
theorem i_bit {n k : Nat} (hn : n < 2 ^ 31) (hk : k < 32) : jiand (jishr (n : Int) (k : Int)) 1 = ((n / 2 ^ k % 2 : Nat) : Int) := by
  rw [i_shr hn hk, i_and1 (Nat.lt_of_le_of_lt (Nat.div_le_self _ _) hn)]
theorem lN_neg {n : Nat} (hn : n < 2 ^ 64) : lN n < 0 ↔ 2 ^ 63 ≤ n := by
  rw [Int64.lt_iff_toInt_lt]
  have e : (lN n).toInt = (BitVec.ofNat 64 n).toInt := rfl
  rw [e, BitVec.toInt_eq_toNat_cond, BitVec.toNat_ofNat, Nat.mod_eq_of_lt hn]
  have z : (0 : Int64).toInt = 0 := rfl
  rw [z]
  split <;> omega
theorem lN_u {n : Nat} (hn : n < 2 ^ 64) : (lN n).toUInt64.toNat = n := wb_tn hn
/-! ===== the class's numbers: scaled, decoded ===== -/
theorem val_bits {z : UInt64} {B : Nat} (hB : z.toNat = B) (h1 : B < 2047 * 2 ^ 52) : FP.Core.val64 z = if B / 2 ^ 52 = 0 then .fin false (B % 2 ^ 52) (-1074) else .fin false (2 ^ 52 + B % 2 ^ 52) (-1074 + (((B / 2 ^ 52 : Nat) : Int) - 1)) := by
  have ht : FP.Core.b64.tails = 2 ^ 52 := rfl
  have hx : FP.Core.b64.exps = 2048 := rfl
  have hE : FP.Core.fieldE FP.Core.b64 B = B / 2 ^ 52 := by
    unfold FP.Core.fieldE; rw [ht, hx]; omega
  have hT : FP.Core.fieldT FP.Core.b64 B = B % 2 ^ 52 := by
    unfold FP.Core.fieldT; rw [ht]
  have hS : FP.Core.fieldS FP.Core.b64 B = false := by
    unfold FP.Core.fieldS; rw [ht, hx]
    rw [beq_eq_false_iff_ne]; omega
  unfold FP.Core.val64 FP.Core.decode
  rw [hB, hE, hT, hS, hx, ht, FP.Core.qmin_b64, if_neg (by omega)]
theorem dv_bits {z : UInt64} {B : Nat} (hB : z.toNat = B) (h1 : B < 2047 * 2 ^ 52) : dv z (if B / 2 ^ 52 = 0 then B % 2 ^ 52 else 2 ^ 52 + B % 2 ^ 52) ((if B / 2 ^ 52 = 0 then 1 else ((B / 2 ^ 52 : Nat) : Int)) - 1075) := by
  have h := val_bits hB h1
  by_cases g : B / 2 ^ 52 = 0
  · rw [if_pos g] at h ⊢
    rw [if_pos g]
    exact dv_of h
  · rw [if_neg g] at h ⊢
    rw [if_neg g]
    have := dv_of h
    rw [show (-1074 : Int) + (((B / 2 ^ 52 : Nat) : Int) - 1) = ((B / 2 ^ 52 : Nat) : Int) - 1075 by omega] at this
    exact this
theorem dneg_lo {z : UInt64} (h : z.toNat < 2 ^ 63) : (FP.dneg z).toNat = z.toNat + 2 ^ 63 := by
  have h1 := dneg_mod z
  have h2 : (FP.dneg z).toNat / 2 ^ 63 = 1 := by
    unfold FP.dneg
    rw [UInt64.toNat_xor]
    show (z.toNat ^^^ 2 ^ 63) / 2 ^ 63 = 1
    rw [Nat.xor_div_two_pow, Nat.div_eq_of_lt h]
    rfl
  rw [Nat.mod_eq_of_lt h] at h1
  omega
theorem dneg_hi {z : UInt64} (h : 2 ^ 63 ≤ z.toNat) : (FP.dneg z).toNat = z.toNat - 2 ^ 63 := by
  have h1 := dneg_mod z
  have hz : z.toNat < 2 ^ 64 := z.toNat_lt
  have h2 : (FP.dneg z).toNat / 2 ^ 63 = 0 := by
    unfold FP.dneg
    rw [UInt64.toNat_xor]
    show (z.toNat ^^^ 2 ^ 63) / 2 ^ 63 = 0
    rw [Nat.xor_div_two_pow, show z.toNat / 2 ^ 63 = 1 by omega]
    rfl
  omega
theorem mul_inf {r y : UInt64} {c : Nat} (h : dv r c 460) (hy : dv y 1 512) (hc : 2 ^ 52 ≤ c) : FP.dmul r y = 9218868437227405312 := by
  obtain ⟨hq, d, e, e1, e2⟩ := h
  obtain ⟨hk, d2, r2, f1, f2⟩ := hy
  have fx : FP.Core.fits FP.Core.b64 (.fin false d e) := e1 ▸ FP.Core.val64_fits r
  have fy : FP.Core.fits FP.Core.b64 (.fin false d2 r2) := f1 ▸ FP.Core.val64_fits y
  have hr : (-1074 : Int) ≤ e := fx.2.1
  have hr2 : (-1074 : Int) ≤ r2 := fy.2.1
  have hi : FP.Core.val64 9218868437227405312 = .inf false := by decide +kernel
  have hv : FP.Core.val64 (FP.Core.dmul r y) = .inf false := by
    rw [FP.Core.val64_dmul, e1, f1]
    show FP.Core.roundRatio FP.Core.b64 false (d * d2) 1 (e + r2) = _
    have e3 : d * d2 * 2 ^ ((e + 1074).toNat + (r2 + 1074).toNat) = c * 2 ^ ((460 + 1074 : Int).toNat + (512 + 1074 : Int).toNat) := by
      rw [Nat.pow_add, Nat.pow_add]
      calc d * d2 * (2 ^ (e + 1074).toNat * 2 ^ (r2 + 1074).toNat) = (d * 2 ^ (e + 1074).toNat) * (d2 * 2 ^ (r2 + 1074).toNat) := by
            rw [Nat.mul_assoc, Nat.mul_assoc, Nat.mul_left_comm d2]
        _ = (c * 2 ^ (460 + 1074 : Int).toNat) * (1 * 2 ^ (512 + 1074 : Int).toNat) := by rw [e2, f2]
        _ = c * (2 ^ (460 + 1074 : Int).toNat * 2 ^ (512 + 1074 : Int).toNat) := by rw [Nat.one_mul, Nat.mul_assoc]
    have e4 := pow_can e3
    have a0 : (460 + 1074 : Int).toNat + (512 + 1074 : Int).toNat = 3120 := by decide
    rw [a0] at e4
    have hcg : FP.Core.roundRatio FP.Core.b64 false (d * d2) 1 (e + r2) = FP.Core.roundRatio FP.Core.b64 false c 1 972 := by
      refine FP.Core.roundRatio_congr (by decide) (by decide) ?_
      rw [Nat.mul_one, Nat.mul_one]
      have a1 : (e + r2 - 972).toNat = (e + 1074).toNat + (r2 + 1074).toNat - 3120 := by omega
      have a2 : (972 - (e + r2)).toNat = 3120 - ((e + 1074).toNat + (r2 + 1074).toNat) := by omega
      rw [a1, a2]
      exact e4
    rw [hcg]
    refine (FP.Core.roundRatio_inf FP.Core.good_b64 (e0 := -1075) (by decide) (by decide) (by decide)).mpr ?_
    have b1 : (2 ^ (FP.Core.b64.p + 1) - 1) * 2 ^ (FP.Core.b64.qmax - 1 - -1075).toNat * 1 ≤ 2 ^ 52 * 2 ^ 2047 := by decide +kernel
    have b2 : FP.Core.inUnits c 972 (-1075) = c * 2 ^ 2047 := rfl
    rw [b2]
    exact Nat.le_trans b1 (Nat.mul_le_mul_right _ hc)
  exact FP.Core.val64_inj (by rw [show FP.Core.val64 (FP.dmul r y) = _ from hv]; exact fun q => by cases q) (hv.trans hi.symm)
section NUM1
variable {σ : Hp} {Q : Option PV → Hp → Prop}
theorem cN_scaledN {x : UInt64} {c p : Nat} (hx : dv x c 0) (hc : c < 2 ^ 53) (hp : p ≤ 1074) (hp0 : 0 < p) (hQ : ∀ y, dv y c (-(p : Int)) → Q (some (vD y)) σ) : Sp mN_scaled [vD x, vI (-(p : Int))] σ Q := by
  have loop : ∀ (n i : Nat) (r : UInt64), i ≤ 11 → 12 ≤ i + n → dv r c (-((p % 2 ^ i : Nat) : Int)) → J mN_scaled 32 [(3, vD r), (5, vD (hvN i)), (7, vI p), (8, vI i)] [] σ Q := by
    intro n
    induction n with
    | zero => intro i r h1 h2; exact absurd h2 (by omega)
    | succ n ih =>
      intro i r h1 h2 h3
      have nf : i < 11 → vf_n64 (FP.dmul (hvN i) (hvN i)) := fun h => hvN_nn (i + 1) (by omega)
      have hms := Nat.mod_pow_succ (x := p) (b := 2) (k := i)
      have hle : p % 2 ^ (i + 1) ≤ p := Nat.mod_le _ _
      obtain ⟨B, hB⟩ : ∃ B, B = p / 2 ^ i % 2 := ⟨_, rfl⟩
      have hB2 : B < 2 := by rw [hB]; exact Nat.mod_lt _ (by decide)
      have ebit : i < 11 → jiand (jishr (p : Int) (i : Int)) 1 = (B : Int) := fun h => by rw [hB]; exact i_bit (by omega) (by omega)
      rw [← hB] at hms
      have stp : i < 11 → ¬ B = 0 → dv (FP.dmul r (hvN i)) c (-((p % 2 ^ (i + 1) : Nat) : Int)) := fun h g => by
        have e : B = 1 := by omega
        rw [e, Nat.mul_one] at hms
        have := dv_mul h3 (hvN_dv i (by omega)) hc (by omega) (by omega)
        rw [show -((p % 2 ^ i : Nat) : Int) + -((2 ^ i : Nat) : Int) = -((p % 2 ^ (i + 1) : Nat) : Int) by omega] at this
        exact this
      have kep : B = 0 → dv r c (-((p % 2 ^ (i + 1) : Nat) : Int)) := fun g => by
        rw [g, Nat.mul_zero, Nat.add_zero] at hms
        rw [hms]; exact h3
      refine j_iload (p2 := 34) dN_scaled_32 rfl rfl ?_
      refine j_bipush (v := 11) (p2 := 36) dN_scaled_34 rfl rfl ?_
      refine j_icmp_ge (p2 := 39) (tg := 67) dN_scaled_36 rfl (by decide) (by constructor <;> omega) (by constructor <;> omega) (fun h36 => ?_) (fun h36 => ?_)
      · refine j_dload_n (p2 := 68) dN_scaled_67 rfl rfl ?_
        refine j_dreturn dN_scaled_68 rfl (by have e : i = 11 := (by omega); subst e; rw [Nat.mod_eq_of_lt (by omega)] at h3; exact hQ r h3)
      · refine j_iload (p2 := 41) dN_scaled_39 rfl rfl ?_
        refine j_iload (p2 := 43) dN_scaled_41 rfl rfl ?_
        refine j_ishr (p2 := 44) dN_scaled_43 rfl ?_
        refine j_iconst (p2 := 45) dN_scaled_44 rfl ?_
        refine j_iand (p2 := 46) dN_scaled_45 rfl ?_
        refine j_if_eq (p2 := 49) (tg := 54) dN_scaled_46 rfl (by decide) (by rw [ebit (by omega)]; constructor <;> omega) (fun h46 => ?_) (fun h46 => ?_)
        · refine j_dload (p2 := 56) dN_scaled_54 rfl rfl ?_
          refine j_dload (p2 := 58) dN_scaled_56 rfl rfl ?_
          refine j_dmul (p2 := 59) dN_scaled_58 rfl (nf (by omega)) ?_
          refine j_dstore (p2 := 61) (lv' := [(3, _), (5, _), (7, _), (8, _)]) dN_scaled_59 rfl (Nat.le_of_ble_eq_true rfl) ⟨rfl, rfl, rfl, rfl, trivial⟩ ?_
          refine j_iinc (p2 := 64) (lv' := [(3, _), (5, _), (7, _), (8, _)]) dN_scaled_61 rfl (Nat.le_of_ble_eq_true rfl) rfl ⟨rfl, rfl, rfl, rfl, trivial⟩ ?_
          refine j_goto (p2 := 32) dN_scaled_64 (by decide) ?_
          refine J.loc (lv' := [(3, _), (5, _), (7, _), (8, _)]) ⟨rfl, rfl, rfl, rfl, trivial⟩ ?_
          rw [ebit (by omega)] at h46
          first
            | exact ih (i + 1) _ (by omega) (by omega) (kep (by omega))
            | exact ih (i + 1) _ (by omega) (by omega) (stp (by omega) (by omega))
        · refine j_dload_n (p2 := 50) dN_scaled_49 rfl rfl ?_
          refine j_dload (p2 := 52) dN_scaled_50 rfl rfl ?_
          refine j_dmul (p2 := 53) dN_scaled_52 rfl (by rw [ebit (by omega)] at h46; exact (stp (by omega) (by omega)).nn) ?_
          refine j_dstore_n (p2 := 54) (lv' := [(3, _), (5, _), (7, _), (8, _)]) dN_scaled_53 rfl (Nat.le_of_ble_eq_true rfl) ⟨rfl, rfl, rfl, rfl, trivial⟩ ?_
          refine j_dload (p2 := 56) dN_scaled_54 rfl rfl ?_
          refine j_dload (p2 := 58) dN_scaled_56 rfl rfl ?_
          refine j_dmul (p2 := 59) dN_scaled_58 rfl (nf (by omega)) ?_
          refine j_dstore (p2 := 61) (lv' := [(3, _), (5, _), (7, _), (8, _)]) dN_scaled_59 rfl (Nat.le_of_ble_eq_true rfl) ⟨rfl, rfl, rfl, rfl, trivial⟩ ?_
          refine j_iinc (p2 := 64) (lv' := [(3, _), (5, _), (7, _), (8, _)]) dN_scaled_61 rfl (Nat.le_of_ble_eq_true rfl) rfl ⟨rfl, rfl, rfl, rfl, trivial⟩ ?_
          refine j_goto (p2 := 32) dN_scaled_64 (by decide) ?_
          refine J.loc (lv' := [(3, _), (5, _), (7, _), (8, _)]) ⟨rfl, rfl, rfl, rfl, trivial⟩ ?_
          rw [ebit (by omega)] at h46
          first
            | exact ih (i + 1) _ (by omega) (by omega) (kep (by omega))
            | exact ih (i + 1) _ (by omega) (by omega) (stp (by omega) (by omega))
  have h0 : dv x c (-((p % 2 ^ 0 : Nat) : Int)) := by rw [Nat.pow_zero, Nat.mod_one]; exact hx
  have e0 : - -(p : Int) = p := by omega
  refine j_dload_n (p2 := 1) dN_scaled_0 rfl rfl ?_
  refine j_dstore_n (p2 := 2) (lv' := [(2, _), (3, _)]) dN_scaled_1 rfl (Nat.le_of_ble_eq_true rfl) ⟨rfl, rfl, trivial⟩ ?_
  refine j_iload_n (p2 := 3) dN_scaled_2 rfl rfl ?_
  refine j_if_ge (p2 := 6) (tg := 12) dN_scaled_3 rfl (by decide) (by constructor <;> omega) (fun h3 => ?_) (fun h3 => ?_)
  · refine j_ldc2d (p2 := 15) dN_scaled_12 rfl cw_N_19 ?_
    refine j_dstore (p2 := 17) (lv' := [(2, _), (3, _), (5, _)]) dN_scaled_15 rfl (Nat.le_of_ble_eq_true rfl) ⟨rfl, rfl, rfl, trivial⟩ ?_
    refine j_iload_n (p2 := 18) dN_scaled_17 rfl rfl ?_
    refine j_if_ge (p2 := 21) (tg := 26) dN_scaled_18 rfl (by decide) (by constructor <;> omega) (fun h18 => ?_) (fun h18 => ?_)
    · refine j_iload_n (p2 := 27) dN_scaled_26 rfl rfl ?_
      refine j_istore (p2 := 29) (lv' := [(3, _), (5, _), (7, _)]) dN_scaled_27 rfl (Nat.le_of_ble_eq_true rfl) ⟨rfl, rfl, rfl, trivial⟩ ?_
      refine j_iconst (p2 := 30) dN_scaled_29 rfl ?_
      refine j_istore (p2 := 32) (lv' := [(3, _), (5, _), (7, _), (8, _)]) dN_scaled_30 rfl (Nat.le_of_ble_eq_true rfl) ⟨rfl, rfl, rfl, rfl, trivial⟩ ?_
      refine J.loc (lv' := [(3, _), (5, _), (7, _), (8, _)]) ⟨rfl, rfl, rfl, rfl, trivial⟩ ?_
      first
        | (exfalso; omega)
        | (rw [e0]
           exact loop 12 0 x (by omega) (by omega) h0)
    · refine j_iload_n (p2 := 22) dN_scaled_21 rfl rfl ?_
      refine j_ineg (p2 := 23) dN_scaled_22 rfl ?_
      refine j_goto (p2 := 27) dN_scaled_23 (by decide) ?_
      refine j_istore (p2 := 29) (lv' := [(3, _), (5, _), (7, _)]) dN_scaled_27 rfl (Nat.le_of_ble_eq_true rfl) ⟨rfl, rfl, rfl, trivial⟩ ?_
      refine j_iconst (p2 := 30) dN_scaled_29 rfl ?_
      refine j_istore (p2 := 32) (lv' := [(3, _), (5, _), (7, _), (8, _)]) dN_scaled_30 rfl (Nat.le_of_ble_eq_true rfl) ⟨rfl, rfl, rfl, rfl, trivial⟩ ?_
      refine J.loc (lv' := [(3, _), (5, _), (7, _), (8, _)]) ⟨rfl, rfl, rfl, rfl, trivial⟩ ?_
      first
        | (exfalso; omega)
        | (rw [e0]
           exact loop 12 0 x (by omega) (by omega) h0)
  · refine j_ldc2d (p2 := 9) dN_scaled_6 rfl cw_N_17 ?_
    refine j_goto (p2 := 15) dN_scaled_9 (by decide) ?_
    refine j_dstore (p2 := 17) (lv' := [(2, _), (3, _), (5, _)]) dN_scaled_15 rfl (Nat.le_of_ble_eq_true rfl) ⟨rfl, rfl, rfl, trivial⟩ ?_
    refine j_iload_n (p2 := 18) dN_scaled_17 rfl rfl ?_
    refine j_if_ge (p2 := 21) (tg := 26) dN_scaled_18 rfl (by decide) (by constructor <;> omega) (fun h18 => ?_) (fun h18 => ?_)
    · refine j_iload_n (p2 := 27) dN_scaled_26 rfl rfl ?_
      refine j_istore (p2 := 29) (lv' := [(3, _), (5, _), (7, _)]) dN_scaled_27 rfl (Nat.le_of_ble_eq_true rfl) ⟨rfl, rfl, rfl, trivial⟩ ?_
      refine j_iconst (p2 := 30) dN_scaled_29 rfl ?_
      refine j_istore (p2 := 32) (lv' := [(3, _), (5, _), (7, _), (8, _)]) dN_scaled_30 rfl (Nat.le_of_ble_eq_true rfl) ⟨rfl, rfl, rfl, rfl, trivial⟩ ?_
      refine J.loc (lv' := [(3, _), (5, _), (7, _), (8, _)]) ⟨rfl, rfl, rfl, rfl, trivial⟩ ?_
      first
        | (exfalso; omega)
        | (rw [e0]
           exact loop 12 0 x (by omega) (by omega) h0)
    · refine j_iload_n (p2 := 22) dN_scaled_21 rfl rfl ?_
      refine j_ineg (p2 := 23) dN_scaled_22 rfl ?_
      refine j_goto (p2 := 27) dN_scaled_23 (by decide) ?_
      refine j_istore (p2 := 29) (lv' := [(3, _), (5, _), (7, _)]) dN_scaled_27 rfl (Nat.le_of_ble_eq_true rfl) ⟨rfl, rfl, rfl, trivial⟩ ?_
      refine j_iconst (p2 := 30) dN_scaled_29 rfl ?_
      refine j_istore (p2 := 32) (lv' := [(3, _), (5, _), (7, _), (8, _)]) dN_scaled_30 rfl (Nat.le_of_ble_eq_true rfl) ⟨rfl, rfl, rfl, rfl, trivial⟩ ?_
      refine J.loc (lv' := [(3, _), (5, _), (7, _), (8, _)]) ⟨rfl, rfl, rfl, rfl, trivial⟩ ?_
      first
        | (exfalso; omega)
        | (rw [e0]
           exact loop 12 0 x (by omega) (by omega) h0)
/-- the number scaled up; 972 places make it too great -/
def scR (c p i : Nat) (r : UInt64) : Prop := if p = 972 ∧ 10 ≤ i then r = 9218868437227405312 else dv r c ((p % 2 ^ i : Nat) : Int)
theorem cN_scaledP {x : UInt64} {c p : Nat} (hx : dv x c 0) (hc : c < 2 ^ 53) (hp : p ≤ 972) (hc2 : p = 972 → 2 ^ 52 ≤ c) (hQ : ∀ y, scR c p 11 y → Q (some (vD y)) σ) : Sp mN_scaled [vD x, vI (p : Int)] σ Q := by
  have loop : ∀ (n i : Nat) (r : UInt64), i ≤ 11 → 12 ≤ i + n → scR c p i r → J mN_scaled 32 [(3, vD r), (5, vD (dbN i)), (7, vI p), (8, vI i)] [] σ Q := by
    intro n
    induction n with
    | zero => intro i r h1 h2; exact absurd h2 (by omega)
    | succ n ih =>
      intro i r h1 h2 h3
      have nf : i < 11 → vf_n64 (FP.dmul (dbN i) (dbN i)) := fun h => dbN_nn (i + 1) (by omega)
      have hms := Nat.mod_pow_succ (x := p) (b := 2) (k := i)
      have hle : p % 2 ^ (i + 1) ≤ p := Nat.mod_le _ _
      have hhi : 10 ≤ i → p / 2 ^ i % 2 = 0 := fun h => by
        have : 2 ^ 10 ≤ 2 ^ i := Nat.pow_le_pow_right (by decide) h
        rw [Nat.div_eq_of_lt (by omega)]
      obtain ⟨B, hB⟩ : ∃ B, B = p / 2 ^ i % 2 := ⟨_, rfl⟩
      have hB2 : B < 2 := by rw [hB]; exact Nat.mod_lt _ (by decide)
      have ebit : i < 11 → jiand (jishr (p : Int) (i : Int)) 1 = (B : Int) := fun h => by rw [hB]; exact i_bit (by omega) (by omega)
      rw [← hB] at hms hhi
      have stp : i < 11 → ¬ B = 0 → scR c p (i + 1) (FP.dmul r (dbN i)) ∧ vf_n64 (FP.dmul r (dbN i)) := fun h g => by
        have e : B = 1 := by omega
        have hi9 : i ≤ 9 := by
          rcases Nat.lt_or_ge i 10 with z | z
          · omega
          · exact absurd (hhi z) g
        rw [e, Nat.mul_one] at hms
        unfold scR at h3
        rw [if_neg (by omega)] at h3
        unfold scR
        by_cases g2 : p = 972 ∧ 10 ≤ i + 1
        · rw [if_pos g2]
          have e9 : i = 9 := by omega
          obtain ⟨e972, _⟩ := g2
          subst e9
          subst e972
          have := mul_inf h3 (dbN_dv 9 (by decide)) (hc2 rfl)
          rw [this]
          exact ⟨rfl, by unfold vf_n64; decide⟩
        · rw [if_neg g2]
          have q1 : p % 2 ^ (i + 1) ≤ 971 := by
            rcases Nat.lt_or_ge p 972 with z | z
            · omega
            · have : i + 1 ≤ 9 := by omega
              have h2 : 2 ^ (i + 1) ≤ 2 ^ 9 := Nat.pow_le_pow_right (by decide) this
              have := Nat.mod_lt p (Nat.two_pow_pos (i + 1))
              omega
          have := dv_mul h3 (dbN_dv i (by omega)) hc (by omega) (by omega)
          rw [show ((p % 2 ^ i : Nat) : Int) + ((2 ^ i : Nat) : Int) = ((p % 2 ^ (i + 1) : Nat) : Int) by omega] at this
          exact ⟨this, this.nn⟩
      have kep : B = 0 → scR c p (i + 1) r := fun g => by
        rw [g, Nat.mul_zero, Nat.add_zero] at hms
        unfold scR at h3 ⊢
        by_cases g2 : p = 972 ∧ 10 ≤ i
        · rw [if_pos g2] at h3
          rw [if_pos (by omega)]; exact h3
        · rw [if_neg g2] at h3
          rw [hms]
          by_cases g3 : p = 972 ∧ 10 ≤ i + 1
          · exfalso
            have e9 : i = 9 := by omega
            obtain ⟨e972, _⟩ := g3
            subst e9
            subst e972
            rw [g] at hB
            exact absurd hB (by decide)
          · rw [if_neg g3]; exact h3
      refine j_iload (p2 := 34) dN_scaled_32 rfl rfl ?_
      refine j_bipush (v := 11) (p2 := 36) dN_scaled_34 rfl rfl ?_
      refine j_icmp_ge (p2 := 39) (tg := 67) dN_scaled_36 rfl (by decide) (by constructor <;> omega) (by constructor <;> omega) (fun h36 => ?_) (fun h36 => ?_)
      · refine j_dload_n (p2 := 68) dN_scaled_67 rfl rfl ?_
        refine j_dreturn dN_scaled_68 rfl (by have e : i = 11 := (by omega); subst e; exact hQ r h3)
      · refine j_iload (p2 := 41) dN_scaled_39 rfl rfl ?_
        refine j_iload (p2 := 43) dN_scaled_41 rfl rfl ?_
        refine j_ishr (p2 := 44) dN_scaled_43 rfl ?_
        refine j_iconst (p2 := 45) dN_scaled_44 rfl ?_
        refine j_iand (p2 := 46) dN_scaled_45 rfl ?_
        refine j_if_eq (p2 := 49) (tg := 54) dN_scaled_46 rfl (by decide) (by rw [ebit (by omega)]; constructor <;> omega) (fun h46 => ?_) (fun h46 => ?_)
        · refine j_dload (p2 := 56) dN_scaled_54 rfl rfl ?_
          refine j_dload (p2 := 58) dN_scaled_56 rfl rfl ?_
          refine j_dmul (p2 := 59) dN_scaled_58 rfl (nf (by omega)) ?_
          refine j_dstore (p2 := 61) (lv' := [(3, _), (5, _), (7, _), (8, _)]) dN_scaled_59 rfl (Nat.le_of_ble_eq_true rfl) ⟨rfl, rfl, rfl, rfl, trivial⟩ ?_
          refine j_iinc (p2 := 64) (lv' := [(3, _), (5, _), (7, _), (8, _)]) dN_scaled_61 rfl (Nat.le_of_ble_eq_true rfl) rfl ⟨rfl, rfl, rfl, rfl, trivial⟩ ?_
          refine j_goto (p2 := 32) dN_scaled_64 (by decide) ?_
          refine J.loc (lv' := [(3, _), (5, _), (7, _), (8, _)]) ⟨rfl, rfl, rfl, rfl, trivial⟩ ?_
          rw [ebit (by omega)] at h46
          first
            | exact ih (i + 1) _ (by omega) (by omega) (kep (by omega))
            | exact ih (i + 1) _ (by omega) (by omega) (stp (by omega) (by omega)).1
        · refine j_dload_n (p2 := 50) dN_scaled_49 rfl rfl ?_
          refine j_dload (p2 := 52) dN_scaled_50 rfl rfl ?_
          refine j_dmul (p2 := 53) dN_scaled_52 rfl (by rw [ebit (by omega)] at h46; exact (stp (by omega) (by omega)).2) ?_
          refine j_dstore_n (p2 := 54) (lv' := [(3, _), (5, _), (7, _), (8, _)]) dN_scaled_53 rfl (Nat.le_of_ble_eq_true rfl) ⟨rfl, rfl, rfl, rfl, trivial⟩ ?_
          refine j_dload (p2 := 56) dN_scaled_54 rfl rfl ?_
          refine j_dload (p2 := 58) dN_scaled_56 rfl rfl ?_
          refine j_dmul (p2 := 59) dN_scaled_58 rfl (nf (by omega)) ?_
          refine j_dstore (p2 := 61) (lv' := [(3, _), (5, _), (7, _), (8, _)]) dN_scaled_59 rfl (Nat.le_of_ble_eq_true rfl) ⟨rfl, rfl, rfl, rfl, trivial⟩ ?_
          refine j_iinc (p2 := 64) (lv' := [(3, _), (5, _), (7, _), (8, _)]) dN_scaled_61 rfl (Nat.le_of_ble_eq_true rfl) rfl ⟨rfl, rfl, rfl, rfl, trivial⟩ ?_
          refine j_goto (p2 := 32) dN_scaled_64 (by decide) ?_
          refine J.loc (lv' := [(3, _), (5, _), (7, _), (8, _)]) ⟨rfl, rfl, rfl, rfl, trivial⟩ ?_
          rw [ebit (by omega)] at h46
          first
            | exact ih (i + 1) _ (by omega) (by omega) (kep (by omega))
            | exact ih (i + 1) _ (by omega) (by omega) (stp (by omega) (by omega)).1
  have h0 : scR c p 0 x := by
    unfold scR
    rw [if_neg (by omega), Nat.pow_zero, Nat.mod_one]; exact hx
  refine j_dload_n (p2 := 1) dN_scaled_0 rfl rfl ?_
  refine j_dstore_n (p2 := 2) (lv' := [(2, _), (3, _)]) dN_scaled_1 rfl (Nat.le_of_ble_eq_true rfl) ⟨rfl, rfl, trivial⟩ ?_
  refine j_iload_n (p2 := 3) dN_scaled_2 rfl rfl ?_
  refine j_if_ge (p2 := 6) (tg := 12) dN_scaled_3 rfl (by decide) (by constructor <;> omega) (fun h3 => ?_) (fun h3 => ?_)
  · refine j_ldc2d (p2 := 15) dN_scaled_12 rfl cw_N_19 ?_
    refine j_dstore (p2 := 17) (lv' := [(2, _), (3, _), (5, _)]) dN_scaled_15 rfl (Nat.le_of_ble_eq_true rfl) ⟨rfl, rfl, rfl, trivial⟩ ?_
    refine j_iload_n (p2 := 18) dN_scaled_17 rfl rfl ?_
    refine j_if_ge (p2 := 21) (tg := 26) dN_scaled_18 rfl (by decide) (by constructor <;> omega) (fun h18 => ?_) (fun h18 => ?_)
    · refine j_iload_n (p2 := 27) dN_scaled_26 rfl rfl ?_
      refine j_istore (p2 := 29) (lv' := [(3, _), (5, _), (7, _)]) dN_scaled_27 rfl (Nat.le_of_ble_eq_true rfl) ⟨rfl, rfl, rfl, trivial⟩ ?_
      refine j_iconst (p2 := 30) dN_scaled_29 rfl ?_
      refine j_istore (p2 := 32) (lv' := [(3, _), (5, _), (7, _), (8, _)]) dN_scaled_30 rfl (Nat.le_of_ble_eq_true rfl) ⟨rfl, rfl, rfl, rfl, trivial⟩ ?_
      refine J.loc (lv' := [(3, _), (5, _), (7, _), (8, _)]) ⟨rfl, rfl, rfl, rfl, trivial⟩ ?_
      first
        | (exfalso; omega)
        | exact loop 12 0 x (by omega) (by omega) h0
    · refine j_iload_n (p2 := 22) dN_scaled_21 rfl rfl ?_
      refine j_ineg (p2 := 23) dN_scaled_22 rfl ?_
      refine j_goto (p2 := 27) dN_scaled_23 (by decide) ?_
      refine j_istore (p2 := 29) (lv' := [(3, _), (5, _), (7, _)]) dN_scaled_27 rfl (Nat.le_of_ble_eq_true rfl) ⟨rfl, rfl, rfl, trivial⟩ ?_
      refine j_iconst (p2 := 30) dN_scaled_29 rfl ?_
      refine j_istore (p2 := 32) (lv' := [(3, _), (5, _), (7, _), (8, _)]) dN_scaled_30 rfl (Nat.le_of_ble_eq_true rfl) ⟨rfl, rfl, rfl, rfl, trivial⟩ ?_
      refine J.loc (lv' := [(3, _), (5, _), (7, _), (8, _)]) ⟨rfl, rfl, rfl, rfl, trivial⟩ ?_
      first
        | (exfalso; omega)
        | exact loop 12 0 x (by omega) (by omega) h0
  · refine j_ldc2d (p2 := 9) dN_scaled_6 rfl cw_N_17 ?_
    refine j_goto (p2 := 15) dN_scaled_9 (by decide) ?_
    refine j_dstore (p2 := 17) (lv' := [(2, _), (3, _), (5, _)]) dN_scaled_15 rfl (Nat.le_of_ble_eq_true rfl) ⟨rfl, rfl, rfl, trivial⟩ ?_
    refine j_iload_n (p2 := 18) dN_scaled_17 rfl rfl ?_
    refine j_if_ge (p2 := 21) (tg := 26) dN_scaled_18 rfl (by decide) (by constructor <;> omega) (fun h18 => ?_) (fun h18 => ?_)
    · refine j_iload_n (p2 := 27) dN_scaled_26 rfl rfl ?_
      refine j_istore (p2 := 29) (lv' := [(3, _), (5, _), (7, _)]) dN_scaled_27 rfl (Nat.le_of_ble_eq_true rfl) ⟨rfl, rfl, rfl, trivial⟩ ?_
      refine j_iconst (p2 := 30) dN_scaled_29 rfl ?_
      refine j_istore (p2 := 32) (lv' := [(3, _), (5, _), (7, _), (8, _)]) dN_scaled_30 rfl (Nat.le_of_ble_eq_true rfl) ⟨rfl, rfl, rfl, rfl, trivial⟩ ?_
      refine J.loc (lv' := [(3, _), (5, _), (7, _), (8, _)]) ⟨rfl, rfl, rfl, rfl, trivial⟩ ?_
      first
        | (exfalso; omega)
        | exact loop 12 0 x (by omega) (by omega) h0
    · refine j_iload_n (p2 := 22) dN_scaled_21 rfl rfl ?_
      refine j_ineg (p2 := 23) dN_scaled_22 rfl ?_
      refine j_goto (p2 := 27) dN_scaled_23 (by decide) ?_
      refine j_istore (p2 := 29) (lv' := [(3, _), (5, _), (7, _)]) dN_scaled_27 rfl (Nat.le_of_ble_eq_true rfl) ⟨rfl, rfl, rfl, trivial⟩ ?_
      refine j_iconst (p2 := 30) dN_scaled_29 rfl ?_
      refine j_istore (p2 := 32) (lv' := [(3, _), (5, _), (7, _), (8, _)]) dN_scaled_30 rfl (Nat.le_of_ble_eq_true rfl) ⟨rfl, rfl, rfl, rfl, trivial⟩ ?_
      refine J.loc (lv' := [(3, _), (5, _), (7, _), (8, _)]) ⟨rfl, rfl, rfl, rfl, trivial⟩ ?_
      first
        | (exfalso; omega)
        | exact loop 12 0 x (by omega) (by omega) h0
end NUM1
