/-! ===== the class's numbers: decoded ===== -/
/-- the number of these bits; bits of no number, and an infinity's, give an infinity -/
def dec (x : Int64) : UInt64 := if x.toUInt64.toNat % 2 ^ 63 < 2047 * 2 ^ 52 then x.toUInt64 else (if x.toUInt64.toNat < 2 ^ 63 then 9218868437227405312 else 18442240474082181120)
theorem dec_core {n : Nat} {y : UInt64} (hn : n % 2 ^ 63 < 2047 * 2 ^ 52) (hy : dv y (if n % 2 ^ 63 / 2 ^ 52 = 0 then n % 2 ^ 63 % 2 ^ 52 else 2 ^ 52 + n % 2 ^ 63 % 2 ^ 52) ((if n % 2 ^ 63 / 2 ^ 52 = 0 then 1 else ((n % 2 ^ 63 / 2 ^ 52 : Nat) : Int)) - 1075)) : y.toNat = n % 2 ^ 63 := by
  have hz : (UInt64.ofNat (n % 2 ^ 63)).toNat = n % 2 ^ 63 := u_tn (by omega)
  have := dv_bits hz hn
  rw [hy.uniq this rfl, hz]
section NUM2
variable {σ : Hp} {Q : Option PV → Hp → Prop}
theorem cN_isFinite {x : Int64} (hQ : Q (some (vI (bI (decide (x.toUInt64.toNat % 2 ^ 63 < 2047 * 2 ^ 52))))) σ) : Sp mN_isFinite [vL x] σ Q := by
  obtain ⟨n, hn, rfl⟩ := wb_of x
  rw [lN_u hn] at hQ
  have e1 : jiand ((jlushr (lN n) 52).toInt32.toInt) 2047 = ((n / 2 ^ 52 % 2 ^ 11 : Nat) : Int) := by
    rw [show (52 : Int) = ((52 : Nat) : Int) from rfl, jl_ushr hn (by decide), lN_i32 (by omega)]
    have := i_and (a := n / 2 ^ 52) (b := 2047) (by omega) (by decide)
    rw [show n / 2 ^ 52 &&& 2047 = n / 2 ^ 52 % 2 ^ 11 from Nat.and_two_pow_sub_one_eq_mod _ 11] at this
    exact this
  refine j_lload_n (p2 := 1) dN_isFinite_0 rfl rfl ?_
  refine j_bipush (v := 52) (p2 := 3) dN_isFinite_1 rfl rfl ?_
  refine j_lushr (p2 := 4) dN_isFinite_3 rfl ?_
  refine j_l2i (p2 := 5) dN_isFinite_4 rfl ?_
  refine j_sipush (v := 2047) (p2 := 8) dN_isFinite_5 rfl rfl ?_
  refine j_iand (p2 := 9) dN_isFinite_8 rfl ?_
  refine j_sipush (v := 2047) (p2 := 12) dN_isFinite_9 rfl rfl ?_
  refine j_icmp_eq (p2 := 15) (tg := 19) dN_isFinite_12 rfl (by decide) (by rw [e1]; constructor <;> omega) (by constructor <;> omega) (fun h12 => ?_) (fun h12 => ?_)
  · refine j_iconst (p2 := 20) dN_isFinite_19 rfl ?_
    refine j_zreturn dN_isFinite_20 rfl (by first | exact Or.inl rfl | exact Or.inr rfl | exact bI_or _ | omega) (by rw [e1] at h12; first | exact Q_b1 hQ (by omega) | exact Q_b0 hQ (by omega))
  · refine j_iconst (p2 := 16) dN_isFinite_15 rfl ?_
    refine j_goto (p2 := 20) dN_isFinite_16 (by decide) ?_
    refine j_zreturn dN_isFinite_20 rfl (by first | exact Or.inl rfl | exact Or.inr rfl | exact bI_or _ | omega) (by rw [e1] at h12; first | exact Q_b1 hQ (by omega) | exact Q_b0 hQ (by omega))
theorem cN_decoded {x : Int64} (hQ : Q (some (vD (dec x))) σ) : Sp mN_decoded [vL x] σ Q := by
  obtain ⟨n, hn, rfl⟩ := wb_of x
  unfold dec at hQ
  rw [lN_u hn] at hQ
  obtain ⟨E, hE⟩ : ∃ E, E = n % 2 ^ 63 / 2 ^ 52 := ⟨_, rfl⟩
  obtain ⟨T, hT⟩ : ∃ T, T = n % 2 ^ 63 % 2 ^ 52 := ⟨_, rfl⟩
  have hT2 : T = n % 2 ^ 52 := by omega
  have hE2 : E < 2048 := by omega
  have hTl : T < 2 ^ 52 := by omega
  have e1 : jiand ((jlushr (lN n) 52).toInt32.toInt) 2047 = (E : Int) := by
    rw [show (52 : Int) = ((52 : Nat) : Int) from rfl, jl_ushr hn (by decide), lN_i32 (by omega)]
    have := i_and (a := n / 2 ^ 52) (b := 2047) (by omega) (by decide)
    rw [show n / 2 ^ 52 &&& 2047 = n / 2 ^ 52 % 2 ^ 11 from Nat.and_two_pow_sub_one_eq_mod _ 11] at this
    rw [show ((2047 : Int)) = ((2047 : Nat) : Int) from rfl, this, hE]
    omega
  have e2 : lN n &&& 4503599627370495 = lN T := by
    rw [hT2]; exact g_mask (s := 52) (p := 2 ^ 52) rfl (by decide) hn
  have e3 : lN T ||| 4503599627370496 = lN (2 ^ 52 + T) := by
    have := g_or' (k := 52) (p := 2 ^ 52) (a := T) (b := 1) rfl hTl (by omega)
    rw [Nat.one_mul, Nat.add_comm] at this
    exact this
  have at57 : ∀ y, y.toNat = n % 2 ^ 63 → n % 2 ^ 63 < 2047 * 2 ^ 52 → J mN_decoded 57 [(0, vL (lN n))] [vD y] σ Q := by
    intro y hy hlt
    rw [if_pos hlt] at hQ
    refine j_dstore (p2 := 59) (lv' := [(0, _), (8, _)]) dN_decoded_57 rfl (Nat.le_of_ble_eq_true rfl) ⟨rfl, rfl, trivial⟩ ?_
    refine j_lload_n (p2 := 60) dN_decoded_59 rfl rfl ?_
    refine j_lconst (v := 0) (p2 := 61) dN_decoded_60 rfl rfl ?_
    refine j_lcmp_ge (p1 := 62) (p2 := 65) (tg := 71) dN_decoded_61 rfl dN_decoded_62 rfl (by decide) (fun h61 => ?_) (fun h61 => ?_)
    · refine j_dload (p2 := 73) dN_decoded_71 rfl rfl ?_
      refine j_dreturn dN_decoded_73 rfl (by
      have hu := lN_u hn
      first
        | (have g : ¬ 2 ^ 63 ≤ n := (fun z => h61 ((lN_neg hn).mpr z))
           have e : y = (lN n).toUInt64 := UInt64.toNat_inj.mp (by rw [hy, hu]; omega)
           rw [e]; exact hQ)
        | (have g : 2 ^ 63 ≤ n := (lN_neg hn).mp h61
           have e : FP.dneg y = (lN n).toUInt64 := UInt64.toNat_inj.mp (by rw [dneg_lo (by omega), hy, hu]; omega)
           rw [e]; exact hQ))
    · refine j_dload (p2 := 67) dN_decoded_65 rfl rfl ?_
      refine j_dneg (p2 := 68) dN_decoded_67 rfl ?_
      refine j_goto (p2 := 73) dN_decoded_68 (by decide) ?_
      refine j_dreturn dN_decoded_73 rfl (by
      have hu := lN_u hn
      first
        | (have g : ¬ 2 ^ 63 ≤ n := (fun z => h61 ((lN_neg hn).mpr z))
           have e : y = (lN n).toUInt64 := UInt64.toNat_inj.mp (by rw [hy, hu]; omega)
           rw [e]; exact hQ)
        | (have g : 2 ^ 63 ≤ n := (lN_neg hn).mp h61
           have e : FP.dneg y = (lN n).toUInt64 := UInt64.toNat_inj.mp (by rw [dneg_lo (by omega), hy, hu]; omega)
           rw [e]; exact hQ))
  have inf57 : ¬ n % 2 ^ 63 < 2047 * 2 ^ 52 → J mN_decoded 57 [(0, vL (lN n))] [vD 9218868437227405312] σ Q := by
    intro hlt
    rw [if_neg hlt] at hQ
    refine j_dstore (p2 := 59) (lv' := [(0, _), (8, _)]) dN_decoded_57 rfl (Nat.le_of_ble_eq_true rfl) ⟨rfl, rfl, trivial⟩ ?_
    refine j_lload_n (p2 := 60) dN_decoded_59 rfl rfl ?_
    refine j_lconst (v := 0) (p2 := 61) dN_decoded_60 rfl rfl ?_
    refine j_lcmp_ge (p1 := 62) (p2 := 65) (tg := 71) dN_decoded_61 rfl dN_decoded_62 rfl (by decide) (fun h61 => ?_) (fun h61 => ?_)
    · refine j_dload (p2 := 73) dN_decoded_71 rfl rfl ?_
      refine j_dreturn dN_decoded_73 rfl (by
      first
        | (have g : ¬ 2 ^ 63 ≤ n := (fun z => h61 ((lN_neg hn).mpr z))
           rw [if_pos (by omega)] at hQ; exact hQ)
        | (have g : 2 ^ 63 ≤ n := (lN_neg hn).mp h61
           rw [if_neg (by omega)] at hQ
           have e : FP.dneg 9218868437227405312 = 18442240474082181120 := by decide +kernel
           rw [e]; exact hQ))
    · refine j_dload (p2 := 67) dN_decoded_65 rfl rfl ?_
      refine j_dneg (p2 := 68) dN_decoded_67 rfl ?_
      refine j_goto (p2 := 73) dN_decoded_68 (by decide) ?_
      refine j_dreturn dN_decoded_73 rfl (by
      first
        | (have g : ¬ 2 ^ 63 ≤ n := (fun z => h61 ((lN_neg hn).mpr z))
           rw [if_pos (by omega)] at hQ; exact hQ)
        | (have g : 2 ^ 63 ≤ n := (lN_neg hn).mp h61
           rw [if_neg (by omega)] at hQ
           have e : FP.dneg 9218868437227405312 = 18442240474082181120 := by decide +kernel
           rw [e]; exact hQ))
  have call : ∀ (Wn : Nat) (S : Int), Wn = (if E = 0 then T else 2 ^ 52 + T) → S = (if E = 0 then 1 else (E : Int)) - 1075 → J mN_decoded 54 [(0, vL (lN n))] [vI S, vD (FP.l2d (lN Wn))] σ Q := by
    intro Wn S hW hS
    have hWl : Wn < 2 ^ 53 := by rw [hW]; split <;> omega
    have hdv := dv_l2d hWl
    have hlow : E < 2047 → n % 2 ^ 63 < 2047 * 2 ^ 52 := fun h => by omega
    have hc := fun y (h : E < 2047) (hd : dv y Wn S) => at57 y (dec_core (hlow h) (by rw [← hE, ← hT, ← hW, ← hS]; exact hd)) (hlow h)
    have hSr : -1074 ≤ S ∧ S ≤ 972 := by rw [hS]; split <;> omega
    rcases (by omega : S < 0 ∨ 0 ≤ S) with g | g
    · obtain ⟨p, hp⟩ : ∃ p : Nat, S = -(p : Int) := ⟨(-S).toNat, by omega⟩
      subst hp
      have hE3 : E < 2047 := by
        by_cases z : E = 0
        · omega
        · rw [if_neg z] at hS; omega
      refine j_callS (m' := mN_scaled) (As := [_, _]) (p2 := 57) dN_decoded_54 rfl ml_N_13 ok_mN_scaled sm_mN_scaled rfl rfl (Nat.le_of_ble_eq_true rfl) (Nat.le_of_ble_eq_true rfl) ⟨(Nat.le_of_ble_eq_true rfl), (Nat.le_of_ble_eq_true rfl)⟩ ?_
      refine cN_scaledN hdv hWl (by omega) (by omega) (fun y hy => ?_)
      exact hc y hE3 hy
    · obtain ⟨p, hp⟩ : ∃ p : Nat, S = (p : Int) := ⟨S.toNat, by omega⟩
      subst hp
      have hE0 : ¬ E = 0 := fun z => by rw [if_pos z] at hS; omega
      rw [if_neg hE0] at hS
      rw [if_neg hE0] at hW
      have fin : ∀ y, scR Wn p 11 y → J mN_decoded 57 [(0, vL (lN n))] [vD y] σ Q := by
        intro y hy
        unfold scR at hy
        by_cases z : p = 972
        · rw [if_pos ⟨z, by decide⟩] at hy
          rw [hy]
          exact inf57 (by omega)
        · rw [if_neg (by omega), Nat.mod_eq_of_lt (by omega)] at hy
          exact hc y (by omega) hy
      refine j_callS (m' := mN_scaled) (As := [_, _]) (p2 := 57) dN_decoded_54 rfl ml_N_13 ok_mN_scaled sm_mN_scaled rfl rfl (Nat.le_of_ble_eq_true rfl) (Nat.le_of_ble_eq_true rfl) ⟨(Nat.le_of_ble_eq_true rfl), (Nat.le_of_ble_eq_true rfl)⟩ ?_
      refine cN_scaledP hdv hWl (by omega) (by omega) (fun y hy => ?_)
      exact fin y hy
  have at16 : J mN_decoded 16 [(0, vL (lN n)), (2, vI E), (3, vL (lN T))] [] σ Q := by
    refine j_iload_n (p2 := 17) dN_decoded_16 rfl rfl ?_
    refine j_if_ne (p2 := 20) (tg := 24) dN_decoded_17 rfl (by decide) (by constructor <;> omega) (fun h17 => ?_) (fun h17 => ?_)
    · refine j_lload_n (p2 := 25) dN_decoded_24 rfl rfl ?_
      refine j_ldc2 (p2 := 28) dN_decoded_25 rfl cw_N_11 ?_
      refine j_lor (p2 := 29) dN_decoded_28 rfl ?_
      refine j_lstore (p2 := 31) (lv' := [(0, _), (2, _), (5, _)]) dN_decoded_29 rfl (Nat.le_of_ble_eq_true rfl) ⟨rfl, rfl, rfl, trivial⟩ ?_
      refine j_iload_n (p2 := 32) dN_decoded_31 rfl rfl ?_
      refine j_if_ne (p2 := 35) (tg := 39) dN_decoded_32 rfl (by decide) (by constructor <;> omega) (fun h32 => ?_) (fun h32 => ?_)
      · refine j_iload_n (p2 := 40) dN_decoded_39 rfl rfl ?_
        refine j_sipush (v := 1023) (p2 := 43) dN_decoded_40 rfl rfl ?_
        refine j_isub (p2 := 44) dN_decoded_43 rfl ?_
        refine j_bipush (v := 52) (p2 := 46) dN_decoded_44 rfl rfl ?_
        refine j_isub (p2 := 47) dN_decoded_46 rfl ?_
        refine j_istore (p2 := 49) (lv' := [(0, _), (5, _), (7, _)]) dN_decoded_47 rfl (Nat.le_of_ble_eq_true rfl) ⟨rfl, rfl, rfl, trivial⟩ ?_
        refine j_lload (p2 := 51) dN_decoded_49 rfl rfl ?_
        refine j_l2d (p2 := 52) dN_decoded_51 rfl ?_
        refine j_iload (p2 := 54) dN_decoded_52 rfl rfl ?_
        refine J.loc (lv' := [(0, _)]) ⟨rfl, trivial⟩ ?_
        first
          | (exfalso; omega)
          | exact call T _ (by rw [if_pos (by omega)]) (by rw [if_pos (by omega)]; omega)
          | (rw [e3]
             exact call (2 ^ 52 + T) _ (by rw [if_neg (by omega)]) (by rw [if_neg (by omega)]; omega))
      · refine j_iconst (p2 := 36) dN_decoded_35 rfl ?_
        refine j_goto (p2 := 40) dN_decoded_36 (by decide) ?_
        refine j_sipush (v := 1023) (p2 := 43) dN_decoded_40 rfl rfl ?_
        refine j_isub (p2 := 44) dN_decoded_43 rfl ?_
        refine j_bipush (v := 52) (p2 := 46) dN_decoded_44 rfl rfl ?_
        refine j_isub (p2 := 47) dN_decoded_46 rfl ?_
        refine j_istore (p2 := 49) (lv' := [(0, _), (5, _), (7, _)]) dN_decoded_47 rfl (Nat.le_of_ble_eq_true rfl) ⟨rfl, rfl, rfl, trivial⟩ ?_
        refine j_lload (p2 := 51) dN_decoded_49 rfl rfl ?_
        refine j_l2d (p2 := 52) dN_decoded_51 rfl ?_
        refine j_iload (p2 := 54) dN_decoded_52 rfl rfl ?_
        refine J.loc (lv' := [(0, _)]) ⟨rfl, trivial⟩ ?_
        first
          | (exfalso; omega)
          | exact call T _ (by rw [if_pos (by omega)]) (by rw [if_pos (by omega)]; omega)
          | (rw [e3]
             exact call (2 ^ 52 + T) _ (by rw [if_neg (by omega)]) (by rw [if_neg (by omega)]; omega))
    · refine j_lload_n (p2 := 21) dN_decoded_20 rfl rfl ?_
      refine j_goto (p2 := 29) dN_decoded_21 (by decide) ?_
      refine j_lstore (p2 := 31) (lv' := [(0, _), (2, _), (5, _)]) dN_decoded_29 rfl (Nat.le_of_ble_eq_true rfl) ⟨rfl, rfl, rfl, trivial⟩ ?_
      refine j_iload_n (p2 := 32) dN_decoded_31 rfl rfl ?_
      refine j_if_ne (p2 := 35) (tg := 39) dN_decoded_32 rfl (by decide) (by constructor <;> omega) (fun h32 => ?_) (fun h32 => ?_)
      · refine j_iload_n (p2 := 40) dN_decoded_39 rfl rfl ?_
        refine j_sipush (v := 1023) (p2 := 43) dN_decoded_40 rfl rfl ?_
        refine j_isub (p2 := 44) dN_decoded_43 rfl ?_
        refine j_bipush (v := 52) (p2 := 46) dN_decoded_44 rfl rfl ?_
        refine j_isub (p2 := 47) dN_decoded_46 rfl ?_
        refine j_istore (p2 := 49) (lv' := [(0, _), (5, _), (7, _)]) dN_decoded_47 rfl (Nat.le_of_ble_eq_true rfl) ⟨rfl, rfl, rfl, trivial⟩ ?_
        refine j_lload (p2 := 51) dN_decoded_49 rfl rfl ?_
        refine j_l2d (p2 := 52) dN_decoded_51 rfl ?_
        refine j_iload (p2 := 54) dN_decoded_52 rfl rfl ?_
        refine J.loc (lv' := [(0, _)]) ⟨rfl, trivial⟩ ?_
        first
          | (exfalso; omega)
          | exact call T _ (by rw [if_pos (by omega)]) (by rw [if_pos (by omega)]; omega)
          | (rw [e3]
             exact call (2 ^ 52 + T) _ (by rw [if_neg (by omega)]) (by rw [if_neg (by omega)]; omega))
      · refine j_iconst (p2 := 36) dN_decoded_35 rfl ?_
        refine j_goto (p2 := 40) dN_decoded_36 (by decide) ?_
        refine j_sipush (v := 1023) (p2 := 43) dN_decoded_40 rfl rfl ?_
        refine j_isub (p2 := 44) dN_decoded_43 rfl ?_
        refine j_bipush (v := 52) (p2 := 46) dN_decoded_44 rfl rfl ?_
        refine j_isub (p2 := 47) dN_decoded_46 rfl ?_
        refine j_istore (p2 := 49) (lv' := [(0, _), (5, _), (7, _)]) dN_decoded_47 rfl (Nat.le_of_ble_eq_true rfl) ⟨rfl, rfl, rfl, trivial⟩ ?_
        refine j_lload (p2 := 51) dN_decoded_49 rfl rfl ?_
        refine j_l2d (p2 := 52) dN_decoded_51 rfl ?_
        refine j_iload (p2 := 54) dN_decoded_52 rfl rfl ?_
        refine J.loc (lv' := [(0, _)]) ⟨rfl, trivial⟩ ?_
        first
          | (exfalso; omega)
          | exact call T _ (by rw [if_pos (by omega)]) (by rw [if_pos (by omega)]; omega)
          | (rw [e3]
             exact call (2 ^ 52 + T) _ (by rw [if_neg (by omega)]) (by rw [if_neg (by omega)]; omega))
  refine j_lload_n (p2 := 1) dN_decoded_0 rfl rfl ?_
  refine j_bipush (v := 52) (p2 := 3) dN_decoded_1 rfl rfl ?_
  refine j_lushr (p2 := 4) dN_decoded_3 rfl ?_
  refine j_l2i (p2 := 5) dN_decoded_4 rfl ?_
  refine j_sipush (v := 2047) (p2 := 8) dN_decoded_5 rfl rfl ?_
  refine j_iand (p2 := 9) dN_decoded_8 rfl ?_
  refine j_istore_n (p2 := 10) (lv' := [(0, _), (2, _)]) dN_decoded_9 rfl (Nat.le_of_ble_eq_true rfl) ⟨rfl, rfl, trivial⟩ ?_
  refine j_lload_n (p2 := 11) dN_decoded_10 rfl rfl ?_
  refine j_ldc2 (p2 := 14) dN_decoded_11 rfl cw_N_9 ?_
  refine j_land (p2 := 15) dN_decoded_14 rfl ?_
  refine j_lstore_n (p2 := 16) (lv' := [(0, _), (2, _), (3, _)]) dN_decoded_15 rfl (Nat.le_of_ble_eq_true rfl) ⟨rfl, rfl, rfl, trivial⟩ ?_
  refine J.loc (lv' := [(0, _), (2, _), (3, _)]) ⟨rfl, rfl, rfl, trivial⟩ ?_
  rw [e1, e2]
  exact at16
theorem cN_powerOfHalf {k : Nat} (h0 : 0 < k) (hk : k ≤ 30) (hQ : ∀ y, dv y 1 (-(k : Int)) → Q (some (vD y)) σ) : Sp mN_powerOfHalf [vI k] σ Q := by
  refine j_dconst1 (p2 := 1) dN_powerOfHalf_0 rfl ?_
  refine j_iload_n (p2 := 2) dN_powerOfHalf_1 rfl rfl ?_
  refine j_ineg (p2 := 3) dN_powerOfHalf_2 rfl ?_
  refine j_callS (m' := mN_scaled) (As := [_, _]) (p2 := 6) dN_powerOfHalf_3 rfl ml_N_13 ok_mN_scaled sm_mN_scaled rfl rfl (Nat.le_of_ble_eq_true rfl) (Nat.le_of_ble_eq_true rfl) ⟨(Nat.le_of_ble_eq_true rfl), (Nat.le_of_ble_eq_true rfl)⟩ ?_
  refine cN_scaledN dv_c1 (by decide) (by omega) h0 (fun y hy => ?_)
  refine j_dreturn dN_powerOfHalf_6 rfl (by exact hQ y hy)
/-- the size of a number -/
def szD (v : UInt64) : UInt64 := if FP.dcmp v FP.dconst0 = some .lt then FP.dneg v else v
theorem cN_sizeOf {v : UInt64} (hQ : Q (some (vD (szD v))) σ) : Sp mN_sizeOf [vD v] σ Q := by
  unfold szD at hQ
  refine j_dload_n (p2 := 1) dN_sizeOf_0 rfl rfl ?_
  refine j_dconst0 (p2 := 2) dN_sizeOf_1 rfl ?_
  refine j_dcmp_g_ge (p1 := 3) (p2 := 6) (tg := 11) dN_sizeOf_2 rfl dN_sizeOf_3 rfl (by decide) (fun h2 => ?_) (fun h2 => ?_)
  · refine j_dload_n (p2 := 12) dN_sizeOf_11 rfl rfl ?_
    refine j_dreturn dN_sizeOf_12 rfl (by first | (rw [if_pos h2] at hQ; exact hQ) | (rw [if_neg h2] at hQ; exact hQ))
  · refine j_dload_n (p2 := 7) dN_sizeOf_6 rfl rfl ?_
    refine j_dneg (p2 := 8) dN_sizeOf_7 rfl ?_
    refine j_goto (p2 := 12) dN_sizeOf_8 (by decide) ?_
    refine j_dreturn dN_sizeOf_12 rfl (by first | (rw [if_pos h2] at hQ; exact hQ) | (rw [if_neg h2] at hQ; exact hQ))
theorem cN_inRange {v : UInt64} (hQ : Q (some (vI (bI (decide (FP.dcmp (szD v) 4609434218613702656 = some .lt ∨ FP.dcmp (szD v) 4609434218613702656 = some .eq))))) σ) : Sp mN_inRange [vD v] σ Q := by
  refine j_dload_n (p2 := 1) dN_inRange_0 rfl rfl ?_
  refine j_callS (m' := mN_sizeOf) (As := [_]) (p2 := 4) dN_inRange_1 rfl ml_N_46 ok_mN_sizeOf sm_mN_sizeOf rfl rfl (Nat.le_of_ble_eq_true rfl) (Nat.le_of_ble_eq_true rfl) ⟨(Nat.le_of_ble_eq_true rfl), (Nat.le_of_ble_eq_true rfl)⟩ ?_
  refine cN_sizeOf ?_
  refine j_ldc2d (p2 := 7) dN_inRange_4 rfl cw_N_50 ?_
  refine j_dcmp_g_gt (p1 := 8) (p2 := 11) (tg := 15) dN_inRange_7 rfl dN_inRange_8 rfl (by decide) (fun h7 => ?_) (fun h7 => ?_)
  · refine j_iconst (p2 := 16) dN_inRange_15 rfl ?_
    refine j_zreturn dN_inRange_16 rfl (by first | exact Or.inl rfl | exact Or.inr rfl | exact bI_or _ | omega) (by first | exact Q_b1 hQ h7 | exact Q_b0 hQ h7)
  · refine j_iconst (p2 := 12) dN_inRange_11 rfl ?_
    refine j_goto (p2 := 16) dN_inRange_12 (by decide) ?_
    refine j_zreturn dN_inRange_16 rfl (by first | exact Or.inl rfl | exact Or.inr rfl | exact bI_or _ | omega) (by first | exact Q_b1 hQ h7 | exact Q_b0 hQ h7)
end NUM2
