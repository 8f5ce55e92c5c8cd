/-! ===== the class's numbers: bitsOf, floatBitsOf ===== -/
theorem dv_un {z : UInt64} {c : Nat} {q : Int} (hf : z.toNat < 2047 * 2 ^ 52) (hq : -1074 ≤ q) (hu : FP.Core.unitsOf FP.Core.b64 z.toNat = c * 2 ^ (q + 1074).toNat) : dv z c q := by
  have h := dv_bits rfl hf
  exact h.cg hq (h.un.symm.trans hu)
theorem dv_ng {x : UInt64} {c : Nat} {q : Int} (h : FP.Core.val64 x = .fin true c q) : dv (FP.dneg x) c q := by
  have hfin : FP.Core.DFin x := ⟨true, c, q, h⟩
  have fx : FP.Core.fits FP.Core.b64 (.fin true c q) := h ▸ FP.Core.val64_fits x
  have hb := (FP.Core.fin_bits x).mp hfin
  have hs := FP.Core.sgn_bits hfin.ne_nan
  rw [h] at hs
  have hs2 : 2 ^ 63 ≤ x.toNat := of_decide_eq_true hs.symm
  have hz := dneg_hi hs2
  have hx : x.toNat < 2 ^ 64 := x.toNat_lt
  have hm := FP.Core.zmag_bits hfin.ne_nan
  rw [h] at hm
  refine dv_un (by omega) fx.2.1 ?_
  rw [hz, show x.toNat - 2 ^ 63 = x.toNat % 2 ^ 63 by omega, ← hm]
  show c * 2 ^ (q - FP.Core.b64.qmin).toNat = _
  rw [FP.Core.qmin_b64, show q - -1074 = q + 1074 by omega]
theorem val_bits32 {z : UInt32} {B : Nat} (hB : z.toNat % 2 ^ 31 = B) (h1 : B < 255 * 2 ^ 23) : FP.Core.val32 z = if B / 2 ^ 23 = 0 then .fin (decide (2 ^ 31 ≤ z.toNat)) (B % 2 ^ 23) (-149) else .fin (decide (2 ^ 31 ≤ z.toNat)) (2 ^ 23 + B % 2 ^ 23) (-149 + (((B / 2 ^ 23 : Nat) : Int) - 1)) := by
  have ht : FP.Core.b32.tails = 2 ^ 23 := rfl
  have hx : FP.Core.b32.exps = 256 := rfl
  have hlt : z.toNat < 2 ^ 32 := z.toNat_lt
  have hE : FP.Core.fieldE FP.Core.b32 z.toNat = B / 2 ^ 23 := by
    unfold FP.Core.fieldE; rw [ht, hx]; omega
  have hT : FP.Core.fieldT FP.Core.b32 z.toNat = B % 2 ^ 23 := by
    unfold FP.Core.fieldT; rw [ht]; omega
  have hS : FP.Core.fieldS FP.Core.b32 z.toNat = decide (2 ^ 31 ≤ z.toNat) := by
    unfold FP.Core.fieldS; rw [ht, hx]
    by_cases g : 2 ^ 31 ≤ z.toNat
    · rw [decide_eq_true g, beq_iff_eq]; omega
    · rw [decide_eq_false g, beq_eq_false_iff_ne]; omega
  unfold FP.Core.val32 FP.Core.decode
  rw [hE, hT, hS, hx, ht, FP.Core.qmin_b32, if_neg (by omega)]
theorem pk_64 {B : Nat} (h0 : 0 < B) (h1 : B < 2047 * 2 ^ 52) : pkN (if B / 2 ^ 52 = 0 then B % 2 ^ 52 else 2 ^ 52 + B % 2 ^ 52) ((if B / 2 ^ 52 = 0 then 1 else ((B / 2 ^ 52 : Nat) : Int)) - 1075) 52 1023 = B := by
  unfold pkN
  by_cases g : B / 2 ^ 52 = 0
  · rw [if_pos g, if_pos g]
    have e : B % 2 ^ 52 = B := by omega
    rw [e]
    have hl := (Nat.log2_lt (n := B) (k := 52) (by omega)).mpr (by omega)
    obtain ⟨L, hL⟩ : ∃ L, L = B.log2 := ⟨_, rfl⟩
    rw [← hL] at hl ⊢
    rw [if_pos (by omega), show (1 - ((1023 : Nat) : Int) - (1 - 1075 + (L : Int))).toNat = 52 - L by omega, Nat.mul_div_cancel _ (Nat.two_pow_pos _)]
  · rw [if_neg g, if_neg g]
    have hl : (2 ^ 52 + B % 2 ^ 52).log2 = 52 := (Nat.log2_eq_iff (by omega)).mpr ⟨by omega, by omega⟩
    rw [hl, if_neg (by omega), Nat.sub_self, Nat.pow_zero, Nat.mul_one]
    have e : (((B / 2 ^ 52 : Nat) : Int) - 1075 + ((52 : Nat) : Int) + ((1023 : Nat) : Int)).toNat = B / 2 ^ 52 := by omega
    rw [e]
    omega
theorem pk_32 {B : Nat} (h0 : 0 < B) (h1 : B < 255 * 2 ^ 23) : pkN (if B / 2 ^ 23 = 0 then B % 2 ^ 23 else 2 ^ 23 + B % 2 ^ 23) ((if B / 2 ^ 23 = 0 then 1 else ((B / 2 ^ 23 : Nat) : Int)) - 150) 23 127 = B := by
  unfold pkN
  by_cases g : B / 2 ^ 23 = 0
  · rw [if_pos g, if_pos g]
    have e : B % 2 ^ 23 = B := by omega
    rw [e]
    have hl := (Nat.log2_lt (n := B) (k := 23) (by omega)).mpr (by omega)
    obtain ⟨L, hL⟩ : ∃ L, L = B.log2 := ⟨_, rfl⟩
    rw [← hL] at hl ⊢
    rw [if_pos (by omega), show (1 - ((127 : Nat) : Int) - (1 - 150 + (L : Int))).toNat = 23 - L by omega, Nat.mul_div_cancel _ (Nat.two_pow_pos _)]
  · rw [if_neg g, if_neg g]
    have hl : (2 ^ 23 + B % 2 ^ 23).log2 = 23 := (Nat.log2_eq_iff (by omega)).mpr ⟨by omega, by omega⟩
    rw [hl, if_neg (by omega), Nat.sub_self, Nat.pow_zero, Nat.mul_one]
    have e : (((B / 2 ^ 23 : Nat) : Int) - 150 + ((23 : Nat) : Int) + ((127 : Nat) : Int)).toNat = B / 2 ^ 23 := by omega
    rw [e]
    omega
/-- below 0 -/
theorem neg_iff {v : UInt64} (hn : vf_n64 v) : FP.dcmp v FP.dconst0 = some .lt ↔ 2 ^ 63 < v.toNat := by
  have hv := (FP.Core.ne_nan v).mpr (vn64.mp hn)
  have c1 : FP.Core.val64 (0 : UInt64) ≠ .nan := by decide +kernel
  have e2 : FP.Core.dkey 0 = 0 := by decide +kernel
  have hlt : v.toNat < 2 ^ 64 := v.toNat_lt
  show FP.Core.dcmp v 0 = _ ↔ _
  rw [FP.Core.dcmp_lt_key hv c1, e2]
  unfold FP.Core.dkey
  by_cases hs : 2 ^ 63 ≤ v.toNat
  · rw [if_pos hs]; omega
  · rw [if_neg hs]; omega
theorem toI64 {v : UInt64} : v.toInt64 = lN v.toNat := by
  apply wb_inj
  apply BitVec.eq_of_toNat_eq
  rw [wb_tn v.toNat_lt]; rfl
theorem toI32 {v : UInt32} : v.toInt32 = nI v.toNat := by
  apply nI_inj
  apply BitVec.eq_of_toNat_eq
  rw [nI_tb, BitVec.toNat_ofNat, Nat.mod_eq_of_lt v.toNat_lt]; rfl
theorem or31 {t : Nat} (h : t < 2 ^ 31) : t ||| 2 ^ 31 = t + 2 ^ 31 := by
  have h1 : 1 * 2 ^ 31 ||| t = 1 * 2 ^ 31 + t := by rw [← Nat.shiftLeft_eq, Nat.shiftLeft_add_eq_or_of_lt h]
  rw [Nat.one_mul] at h1
  rw [Nat.or_comm, h1, Nat.add_comm]
section NUM4
variable {σ : Hp} {Q : Option PV → Hp → Prop}
theorem cN_packed0 {x : UInt64} {a b : Int} (hx : x.toNat % 2 ^ 63 = 0) (hQ : Q (some (vL 0)) σ) : Sp mN_packed [vD x, vI a, vI b] σ Q := by
  have hz : FP.dcmp x FP.dconst0 = some .eq := FP.Core.zero_iff.mpr ((FP.Core.zero_bits2 x).mpr hx)
  refine j_dload_n (p2 := 1) dN_packed_0 rfl rfl ?_
  refine j_dconst0 (p2 := 2) dN_packed_1 rfl ?_
  refine j_dcmp_l_ne (p1 := 3) (p2 := 6) (tg := 8) dN_packed_2 rfl dN_packed_3 rfl (by decide) (fun h2 => ?_) (fun h2 => ?_)
  · exact absurd hz h2
  · refine j_lconst (v := 0) (p2 := 7) dN_packed_6 rfl rfl ?_
    refine j_lreturn dN_packed_7 rfl (by exact hQ)
theorem cN_packed64 {x : UInt64} (h1 : x.toNat < 2047 * 2 ^ 52) (hQ : Q (some (vL (lN x.toNat))) σ) : Sp mN_packed [vD x, vI 52, vI 1023] σ Q := by
  rcases Nat.eq_zero_or_pos x.toNat with z | z
  · refine cN_packed0 (by rw [z]) ?_
    rw [z] at hQ; exact hQ
  · have hp := pk_64 z h1
    have hd := dv_bits (z := x) rfl h1
    obtain ⟨C, hC⟩ : ∃ C, C = (if x.toNat / 2 ^ 52 = 0 then x.toNat % 2 ^ 52 else 2 ^ 52 + x.toNat % 2 ^ 52) := ⟨_, rfl⟩
    obtain ⟨q, hq⟩ : ∃ q, q = (if x.toNat / 2 ^ 52 = 0 then 1 else ((x.toNat / 2 ^ 52 : Nat) : Int)) - 1075 := ⟨_, rfl⟩
    rw [← hC, ← hq] at hp hd
    have c0 : 0 < C := by rw [hC]; split <;> omega
    have c1 : C < 2 ^ 53 := by rw [hC]; split <;> omega
    have q0 : -1074 ≤ q ∧ q ≤ 971 := by rw [hq]; split <;> omega
    have hl := (Nat.log2_lt (n := C) (k := 53) (by omega)).mpr c1
    exact cN_packed (f := 52) (b := 1023) hd c0 c1 q0.2 (Or.inl ⟨rfl, rfl⟩) (by omega) (by omega) (fun _ => by rw [hp]; exact hQ) (by rw [hp]; omega)
theorem cN_bitsOf {v : UInt64} (hf : v.toNat % 2 ^ 63 < 2047 * 2 ^ 52) (hz : v.toNat ≠ 2 ^ 63) (hQ : Q (some (vL v.toInt64)) σ) : Sp mN_bitsOf [vD v] σ Q := by
  have hn : vf_n64 v := vn64.mpr (by omega)
  have hlt : v.toNat < 2 ^ 64 := v.toNat_lt
  have hneg := neg_iff hn
  rw [toI64] at hQ
  have e : 2 ^ 63 < v.toNat → lN (FP.dneg v).toNat ||| (-9223372036854775808 : Int64) = lN v.toNat := fun h => by
    have h1 := dneg_hi (z := v) (by omega)
    have := g_or' (k := 63) (p := 2 ^ 63) (a := (FP.dneg v).toNat) (b := 1) rfl (by omega) (by omega)
    rw [show (FP.dneg v).toNat + 1 * 2 ^ 63 = v.toNat by omega] at this
    exact this
  refine j_dload_n (p2 := 1) dN_bitsOf_0 rfl rfl ?_
  refine j_dconst0 (p2 := 2) dN_bitsOf_1 rfl ?_
  refine j_dcmp_g_ge (p1 := 3) (p2 := 6) (tg := 23) dN_bitsOf_2 rfl dN_bitsOf_3 rfl (by decide) (fun h2 => ?_) (fun h2 => ?_)
  · refine j_dload_n (p2 := 24) dN_bitsOf_23 rfl rfl ?_
    refine j_bipush (v := 52) (p2 := 26) dN_bitsOf_24 rfl rfl ?_
    refine j_sipush (v := 1023) (p2 := 29) dN_bitsOf_26 rfl rfl ?_
    refine j_callS (m' := mN_packed) (As := [_, _, _]) (p2 := 32) dN_bitsOf_29 rfl ml_N_21 ok_mN_packed sm_mN_packed rfl rfl (Nat.le_of_ble_eq_true rfl) (Nat.le_of_ble_eq_true rfl) ⟨(Nat.le_of_ble_eq_true rfl), (Nat.le_of_ble_eq_true rfl)⟩ ?_
    have g : ¬ 2 ^ 63 < v.toNat := fun z => h2 (hneg.mpr z)
    refine cN_packed64 (by omega) ?_
    refine j_lreturn dN_bitsOf_32 rfl (by first | (rw [e g]; exact hQ) | exact hQ)
  · refine j_dload_n (p2 := 7) dN_bitsOf_6 rfl rfl ?_
    refine j_dneg (p2 := 8) dN_bitsOf_7 rfl ?_
    refine j_bipush (v := 52) (p2 := 10) dN_bitsOf_8 rfl rfl ?_
    refine j_sipush (v := 1023) (p2 := 13) dN_bitsOf_10 rfl rfl ?_
    refine j_callS (m' := mN_packed) (As := [_, _, _]) (p2 := 16) dN_bitsOf_13 rfl ml_N_21 ok_mN_packed sm_mN_packed rfl rfl (Nat.le_of_ble_eq_true rfl) (Nat.le_of_ble_eq_true rfl) ⟨(Nat.le_of_ble_eq_true rfl), (Nat.le_of_ble_eq_true rfl)⟩ ?_
    have g := hneg.mp (by first | exact h2 | exact Classical.not_not.mp h2)
    have h1 := dneg_hi (z := v) (by omega)
    refine cN_packed64 (by omega) ?_
    refine j_ldc2 (p2 := 19) dN_bitsOf_16 rfl cw_N_25 ?_
    refine j_lor (p2 := 20) dN_bitsOf_19 rfl ?_
    refine j_goto (p2 := 32) dN_bitsOf_20 (by decide) ?_
    refine j_lreturn dN_bitsOf_32 rfl (by first | (rw [e g]; exact hQ) | exact hQ)
theorem cN_packed32 {x : UInt64} {a : Nat} (h1 : a < 255 * 2 ^ 23) (hx : (a = 0 → x.toNat % 2 ^ 63 = 0) ∧ (0 < a → dv x (if a / 2 ^ 23 = 0 then a % 2 ^ 23 else 2 ^ 23 + a % 2 ^ 23) ((if a / 2 ^ 23 = 0 then 1 else ((a / 2 ^ 23 : Nat) : Int)) - 150))) (hQ : Q (some (vL (lN a))) σ) : Sp mN_packed [vD x, vI 23, vI 127] σ Q := by
  rcases Nat.eq_zero_or_pos a with z | z
  · refine cN_packed0 (hx.1 z) ?_
    rw [z] at hQ; exact hQ
  · have hp := pk_32 z h1
    have hd := hx.2 z
    obtain ⟨C, hC⟩ : ∃ C, C = (if a / 2 ^ 23 = 0 then a % 2 ^ 23 else 2 ^ 23 + a % 2 ^ 23) := ⟨_, rfl⟩
    obtain ⟨q, hq⟩ : ∃ q, q = (if a / 2 ^ 23 = 0 then 1 else ((a / 2 ^ 23 : Nat) : Int)) - 150 := ⟨_, rfl⟩
    rw [← hC, ← hq] at hp hd
    have c0 : 0 < C := by rw [hC]; split <;> omega
    have c1 : C < 2 ^ 24 := by rw [hC]; split <;> omega
    have q0 : -149 ≤ q ∧ q ≤ 104 := by rw [hq]; split <;> omega
    have hl := (Nat.log2_lt (n := C) (k := 24) (by omega)).mpr c1
    exact cN_packed (f := 23) (b := 127) hd c0 c1 (by omega) (Or.inr ⟨rfl, rfl⟩) (by omega) (by omega) (fun _ => by rw [hp]; exact hQ) (by rw [hp]; omega)
/-- a float in a double: its sign, and its size -/
theorem f2d_bits {a : UInt32} (hf : a.toNat % 2 ^ 31 < 255 * 2 ^ 23) : vf_n64 (FP.f2d a) ∧ (2 ^ 63 ≤ (FP.f2d a).toNat ↔ 2 ^ 31 ≤ a.toNat) ∧ (a.toNat % 2 ^ 31 = 0 ↔ (FP.f2d a).toNat % 2 ^ 63 = 0) ∧ (2 ^ 31 ≤ a.toNat → dv (FP.dneg (FP.f2d a)) (if a.toNat % 2 ^ 31 / 2 ^ 23 = 0 then a.toNat % 2 ^ 31 % 2 ^ 23 else 2 ^ 23 + a.toNat % 2 ^ 31 % 2 ^ 23) ((if a.toNat % 2 ^ 31 / 2 ^ 23 = 0 then 1 else ((a.toNat % 2 ^ 31 / 2 ^ 23 : Nat) : Int)) - 150)) ∧
    (a.toNat < 2 ^ 31 → dv (FP.f2d a) (if a.toNat % 2 ^ 31 / 2 ^ 23 = 0 then a.toNat % 2 ^ 31 % 2 ^ 23 else 2 ^ 23 + a.toNat % 2 ^ 31 % 2 ^ 23) ((if a.toNat % 2 ^ 31 / 2 ^ 23 = 0 then 1 else ((a.toNat % 2 ^ 31 / 2 ^ 23 : Nat) : Int)) - 150)) := by
  have hfin : FP.Core.FFin a := FP.Core.fin_of_lt32 (K := 255) hf (by decide)
  have hv := val_bits32 (z := a) rfl hf
  obtain ⟨s, c, q, c', q', a1, a2, a3, a4, a5, a6⟩ := fq_f2d hfin
  rw [← fq_jf2d hfin] at a3
  have hd : FP.Core.DFin (FP.f2d a) := ⟨s, c', q', a3⟩
  have hsg := FP.Core.sgn_bits hd.ne_nan
  rw [a3] at hsg
  have hcq : FP.Core.Datum.fin s c q = .fin (decide (2 ^ 31 ≤ a.toNat)) (if a.toNat % 2 ^ 31 / 2 ^ 23 = 0 then a.toNat % 2 ^ 31 % 2 ^ 23 else 2 ^ 23 + a.toNat % 2 ^ 31 % 2 ^ 23) ((if a.toNat % 2 ^ 31 / 2 ^ 23 = 0 then 1 else ((a.toNat % 2 ^ 31 / 2 ^ 23 : Nat) : Int)) - 150) := by
    rw [← a1, hv]
    by_cases g : a.toNat % 2 ^ 31 / 2 ^ 23 = 0
    · rw [if_pos g, if_pos g, if_pos g]; rfl
    · rw [if_neg g, if_neg g, if_neg g]
      congr 1; omega
  injection hcq with e1 e2 e3
  have hq : -149 ≤ q := (fq_fit32 a2).2.1
  have hs2 : (2 ^ 63 ≤ (FP.f2d a).toNat ↔ 2 ^ 31 ≤ a.toNat) := by
    have : decide (2 ^ 63 ≤ (FP.f2d a).toNat) = decide (2 ^ 31 ≤ a.toNat) := hsg.symm.trans e1
    exact decide_eq_decide.mp this
  refine ⟨vn64_of hd.notNaN, hs2, ?_, ?_, ?_⟩
  · have z1 := FP.Core.zero_bits232 a
    have z2 := FP.Core.zero_bits2 (FP.f2d a)
    rw [← z1, ← z2]
    constructor
    · rintro ⟨t, u, e⟩
      rw [a1] at e
      injection e with _ e4 _
      exact ⟨s, q', by rw [a3, a5.mp e4]⟩
    · rintro ⟨t, u, e⟩
      rw [a3] at e
      injection e with _ e4 _
      exact ⟨s, q, by rw [a1, a5.mpr e4]⟩
  · intro h
    rw [decide_eq_true h] at e1
    subst e1
    rw [← e2, ← e3]
    exact (dv_ng a3).cg (by omega) a6
  · intro h
    rw [decide_eq_false (by omega)] at e1
    subst e1
    rw [← e2, ← e3]
    exact (dv_of a3).cg (by omega) a6
theorem cN_floatBitsOf {a : UInt32} (hf : a.toNat % 2 ^ 31 < 255 * 2 ^ 23) (hz : a.toNat ≠ 2 ^ 31) (hQ : Q (some (vI a.toInt32.toInt)) σ) : Sp mN_floatBitsOf [vD (FP.f2d a)] σ Q := by
  obtain ⟨hn, h1, hzz, h3, h4⟩ := f2d_bits hf
  have hneg := neg_iff hn
  have hlt : a.toNat < 2 ^ 32 := a.toNat_lt
  rw [toI32] at hQ
  have e : 2 ^ 31 ≤ a.toNat → jior ((a.toNat % 2 ^ 31 : Nat) : Int) (-2147483648) = (nI a.toNat).toInt := fun h => by
    unfold jior
    rw [iw_nat, show iw (-2147483648) = nI (2 ^ 31) from by decide, nI_or (by omega) (by decide)]
    congr 2
    rw [or31 (by omega)]
    omega
  refine j_dload_n (p2 := 1) dN_floatBitsOf_0 rfl rfl ?_
  refine j_dconst0 (p2 := 2) dN_floatBitsOf_1 rfl ?_
  refine j_dcmp_g_ge (p1 := 3) (p2 := 6) (tg := 22) dN_floatBitsOf_2 rfl dN_floatBitsOf_3 rfl (by decide) (fun h2 => ?_) (fun h2 => ?_)
  · refine j_dload_n (p2 := 23) dN_floatBitsOf_22 rfl rfl ?_
    refine j_bipush (v := 23) (p2 := 25) dN_floatBitsOf_23 rfl rfl ?_
    refine j_bipush (v := 127) (p2 := 27) dN_floatBitsOf_25 rfl rfl ?_
    refine j_callS (m' := mN_packed) (As := [_, _, _]) (p2 := 30) dN_floatBitsOf_27 rfl ml_N_21 ok_mN_packed sm_mN_packed rfl rfl (Nat.le_of_ble_eq_true rfl) (Nat.le_of_ble_eq_true rfl) ⟨(Nat.le_of_ble_eq_true rfl), (Nat.le_of_ble_eq_true rfl)⟩ ?_
    have g : ¬ 2 ^ 63 < (FP.f2d a).toNat := fun z => h2 (hneg.mpr z)
    have g2 : a.toNat < 2 ^ 31 := by omega
    refine cN_packed32 (a := a.toNat % 2 ^ 31) hf ⟨fun z => hzz.mp z, fun _ => h4 g2⟩ ?_
    refine j_l2i (p2 := 31) dN_floatBitsOf_30 rfl ?_
    refine j_ireturn dN_floatBitsOf_31 rfl (by rw [lN_i32 (by omega)]; first | (rw [e g2]; exact hQ) | (rw [nI_I g2] at hQ; rw [Nat.mod_eq_of_lt g2]; exact hQ))
  · refine j_dload_n (p2 := 7) dN_floatBitsOf_6 rfl rfl ?_
    refine j_dneg (p2 := 8) dN_floatBitsOf_7 rfl ?_
    refine j_bipush (v := 23) (p2 := 10) dN_floatBitsOf_8 rfl rfl ?_
    refine j_bipush (v := 127) (p2 := 12) dN_floatBitsOf_10 rfl rfl ?_
    refine j_callS (m' := mN_packed) (As := [_, _, _]) (p2 := 15) dN_floatBitsOf_12 rfl ml_N_21 ok_mN_packed sm_mN_packed rfl rfl (Nat.le_of_ble_eq_true rfl) (Nat.le_of_ble_eq_true rfl) ⟨(Nat.le_of_ble_eq_true rfl), (Nat.le_of_ble_eq_true rfl)⟩ ?_
    have g := hneg.mp (by first | exact h2 | exact Classical.not_not.mp h2)
    have g2 := h1.mp (by omega)
    refine cN_packed32 (a := a.toNat % 2 ^ 31) hf ⟨fun z => ?_, fun _ => h3 g2⟩ ?_
    · omega
    refine j_l2i (p2 := 16) dN_floatBitsOf_15 rfl ?_
    refine j_ldc (p2 := 18) dN_floatBitsOf_16 rfl cw_N_27 ?_
    refine j_ior (p2 := 19) dN_floatBitsOf_18 rfl ?_
    refine j_goto (p2 := 31) dN_floatBitsOf_19 (by decide) ?_
    refine j_ireturn dN_floatBitsOf_31 rfl (by rw [lN_i32 (by omega)]; first | (rw [e g2]; exact hQ) | (rw [nI_I g2] at hQ; rw [Nat.mod_eq_of_lt g2]; exact hQ))
end NUM4
