/-! ===== the class's patch: settings ===== -/
theorem szD_le {v c : UInt64} (hv : vf_n64 v) (hc : c.toNat < 2 ^ 63) (hc2 : vf_n64 c) : (FP.dcmp (szD v) c = some .lt ∨ FP.dcmp (szD v) c = some .eq) ↔ dwi v (FP.dneg c) c := by
  have hvn := (FP.Core.ne_nan v).mpr (vn64.mp hv)
  have hcn := (FP.Core.ne_nan c).mpr (vn64.mp hc2)
  have hlt : v.toNat < 2 ^ 64 := v.toNat_lt
  have hneg := neg_iff hv
  have dc := dneg_lo hc
  have hcv : vf_n64 (FP.dneg c) := vn64.mpr (by rw [dneg_mod]; exact vn64.mp hc2)
  have hcvn := (FP.Core.ne_nan _).mpr (vn64.mp hcv)
  have kc : FP.Core.dkey c = (c.toNat : Int) := by unfold FP.Core.dkey; rw [if_neg (by omega)]
  have kd : FP.Core.dkey (FP.dneg c) = -(c.toNat : Int) := by unfold FP.Core.dkey; rw [if_pos (by omega), dc]; omega
  unfold dwi
  show _ ↔ (FP.Core.dcmp v (FP.dneg c) = some .gt ∨ FP.Core.dcmp v (FP.dneg c) = some .eq) ∧ (FP.Core.dcmp v c = some .lt ∨ FP.Core.dcmp v c = some .eq)
  rw [FP.Core.dcmp_gt_key hvn hcvn, FP.Core.dcmp_eq_key hvn hcvn, FP.Core.dcmp_lt_key hvn hcn, FP.Core.dcmp_eq_key hvn hcn, kc, kd]
  unfold szD
  by_cases g : FP.dcmp v FP.dconst0 = some .lt
  · rw [if_pos g]
    have g2 := hneg.mp g
    have dn := dneg_hi (z := v) (by omega)
    have hnv : vf_n64 (FP.dneg v) := vn64.mpr (by rw [dneg_mod]; exact vn64.mp hv)
    have hnvn := (FP.Core.ne_nan _).mpr (vn64.mp hnv)
    show FP.Core.dcmp (FP.dneg v) c = some .lt ∨ FP.Core.dcmp (FP.dneg v) c = some .eq ↔ _
    rw [FP.Core.dcmp_lt_key hnvn hcn, FP.Core.dcmp_eq_key hnvn hcn, kc]
    have k1 : FP.Core.dkey (FP.dneg v) = ((v.toNat - 2 ^ 63 : Nat) : Int) := by unfold FP.Core.dkey; rw [if_neg (by omega), dn]
    have k2 : FP.Core.dkey v = -((v.toNat - 2 ^ 63 : Nat) : Int) := by unfold FP.Core.dkey; rw [if_pos (by omega)]; omega
    rw [k1, k2]
    omega
  · rw [if_neg g]
    have g2 : ¬ 2 ^ 63 < v.toNat := fun z => g (hneg.mpr z)
    show FP.Core.dcmp v c = some .lt ∨ FP.Core.dcmp v c = some .eq ↔ _
    rw [FP.Core.dcmp_lt_key hvn hcn, FP.Core.dcmp_eq_key hvn hcn, kc]
    have k2 : 0 ≤ FP.Core.dkey v := by
      unfold FP.Core.dkey
      by_cases z : 2 ^ 63 ≤ v.toNat
      · rw [if_pos z]; omega
      · rw [if_neg z]; omega
    omega
theorem i2d_1 : FP.i2d (iw 1) = FP.dconst1 := by decide +kernel
theorem i2d_16 : FP.i2d (iw 16) = 4625196817309499392 := by decide +kernel
theorem i2d_0 : FP.i2d (iw 0) = FP.dconst0 := by decide +kernel
theorem i2d_M : FP.i2d (iw 1000000) = 4696837146684686336 := by decide +kernel
theorem deq_sym (a b : UInt64) : FP.dcmp a b = some .eq ↔ FP.dcmp b a = some .eq := ⟨fun h => dcmp_sw h, fun h => dcmp_sw h⟩
theorem bI_dec {p q : Prop} [Decidable p] [Decidable q] (h : p ↔ q) : bI (decide p) = bI (decide q) := by rw [decide_eq_decide.mpr h]
section PAT1
variable {σ : Hp} {Q : Option PV → Hp → Prop}
theorem cP_remembers {k : Int} (hk : inR k) (hQ : Q (some (vI (bI (decide (rem k))))) σ) : Sp mP_remembers [vI k] σ Q := by
  refine j_iload_n (p2 := 1) dP_remembers_0 rfl rfl ?_
  refine j_iconst (p2 := 2) dP_remembers_1 rfl ?_
  refine j_icmp_eq (p2 := 5) (tg := 22) dP_remembers_2 rfl (by decide) (by constructor <;> omega) (by constructor <;> omega) (fun h2 => ?_) (fun h2 => ?_)
  · refine j_iconst (p2 := 23) dP_remembers_22 rfl ?_
    refine j_goto (p2 := 27) dP_remembers_23 (by decide) ?_
    refine j_zreturn dP_remembers_27 rfl (by first | exact Or.inl rfl | exact Or.inr rfl | exact bI_or _ | omega) (by first | exact Q_b1 hQ (by unfold rem; omega) | exact Q_b0 hQ (by unfold rem; omega))
  · refine j_iload_n (p2 := 6) dP_remembers_5 rfl rfl ?_
    refine j_iconst (p2 := 7) dP_remembers_6 rfl ?_
    refine j_icmp_eq (p2 := 10) (tg := 22) dP_remembers_7 rfl (by decide) (by constructor <;> omega) (by constructor <;> omega) (fun h7 => ?_) (fun h7 => ?_)
    · refine j_iconst (p2 := 23) dP_remembers_22 rfl ?_
      refine j_goto (p2 := 27) dP_remembers_23 (by decide) ?_
      refine j_zreturn dP_remembers_27 rfl (by first | exact Or.inl rfl | exact Or.inr rfl | exact bI_or _ | omega) (by first | exact Q_b1 hQ (by unfold rem; omega) | exact Q_b0 hQ (by unfold rem; omega))
    · refine j_iload_n (p2 := 11) dP_remembers_10 rfl rfl ?_
      refine j_bipush (v := 11) (p2 := 13) dP_remembers_11 rfl rfl ?_
      refine j_icmp_eq (p2 := 16) (tg := 22) dP_remembers_13 rfl (by decide) (by constructor <;> omega) (by constructor <;> omega) (fun h13 => ?_) (fun h13 => ?_)
      · refine j_iconst (p2 := 23) dP_remembers_22 rfl ?_
        refine j_goto (p2 := 27) dP_remembers_23 (by decide) ?_
        refine j_zreturn dP_remembers_27 rfl (by first | exact Or.inl rfl | exact Or.inr rfl | exact bI_or _ | omega) (by first | exact Q_b1 hQ (by unfold rem; omega) | exact Q_b0 hQ (by unfold rem; omega))
      · refine j_iload_n (p2 := 17) dP_remembers_16 rfl rfl ?_
        refine j_bipush (v := 13) (p2 := 19) dP_remembers_17 rfl rfl ?_
        refine j_icmp_ne (p2 := 22) (tg := 26) dP_remembers_19 rfl (by decide) (by constructor <;> omega) (by constructor <;> omega) (fun h19 => ?_) (fun h19 => ?_)
        · refine j_iconst (p2 := 27) dP_remembers_26 rfl ?_
          refine j_zreturn dP_remembers_27 rfl (by first | exact Or.inl rfl | exact Or.inr rfl | exact bI_or _ | omega) (by first | exact Q_b1 hQ (by unfold rem; omega) | exact Q_b0 hQ (by unfold rem; omega))
        · refine j_iconst (p2 := 23) dP_remembers_22 rfl ?_
          refine j_goto (p2 := 27) dP_remembers_23 (by decide) ?_
          refine j_zreturn dP_remembers_27 rfl (by first | exact Or.inl rfl | exact Or.inr rfl | exact bI_or _ | omega) (by first | exact Q_b1 hQ (by unfold rem; omega) | exact Q_b0 hQ (by unfold rem; omega))
theorem cP_isWhole {v : UInt64} {a b : Int} (hQ : Q (some (vI (bI (decide (dwi v (FP.i2d (iw a)) (FP.i2d (iw b))) && decide (FP.dcmp v (FP.i2d (iw (FP.d2i v).toInt)) = some .eq))))) σ) : Sp mP_isWhole [vD v, vI a, vI b] σ Q := by
  have e := deq_sym v (FP.i2d (iw (FP.d2i v).toInt))
  have t : dwi v (FP.i2d (iw a)) (FP.i2d (iw b)) → FP.dcmp (FP.i2d (iw (FP.d2i v).toInt)) v = some .eq → Q (some (vI 1)) σ := fun h g => by
    rw [decide_eq_true h, decide_eq_true (e.mpr g)] at hQ; exact hQ
  have f1 : ¬ dwi v (FP.i2d (iw a)) (FP.i2d (iw b)) → Q (some (vI 0)) σ := fun h => by
    rw [decide_eq_false h] at hQ; exact hQ
  have f2 : ¬ FP.dcmp (FP.i2d (iw (FP.d2i v).toInt)) v = some .eq → Q (some (vI 0)) σ := fun g => by
    rw [decide_eq_false (fun z => g (e.mp z)), Bool.and_false] at hQ; exact hQ
  refine j_dload_n (p2 := 1) dP_isWhole_0 rfl rfl ?_
  refine j_iload_n (p2 := 2) dP_isWhole_1 rfl rfl ?_
  refine j_i2d (p2 := 3) dP_isWhole_2 rfl ?_
  refine j_dcmp_l_lt (p1 := 4) (p2 := 7) (tg := 26) dP_isWhole_3 rfl dP_isWhole_4 rfl (by decide) (fun h3 => ?_) (fun h3 => ?_)
  · refine j_iconst (p2 := 27) dP_isWhole_26 rfl ?_
    refine j_zreturn dP_isWhole_27 rfl (by first | exact Or.inl rfl | exact Or.inr rfl | exact bI_or _ | omega) (by first | exact t ⟨h3, h10⟩ h18 | exact f2 h18 | exact f1 (fun z => h10 z.2) | exact f1 (fun z => h3 z.1))
  · refine j_dload_n (p2 := 8) dP_isWhole_7 rfl rfl ?_
    refine j_iload_n (p2 := 9) dP_isWhole_8 rfl rfl ?_
    refine j_i2d (p2 := 10) dP_isWhole_9 rfl ?_
    refine j_dcmp_g_gt (p1 := 11) (p2 := 14) (tg := 26) dP_isWhole_10 rfl dP_isWhole_11 rfl (by decide) (fun h10 => ?_) (fun h10 => ?_)
    · refine j_iconst (p2 := 27) dP_isWhole_26 rfl ?_
      refine j_zreturn dP_isWhole_27 rfl (by first | exact Or.inl rfl | exact Or.inr rfl | exact bI_or _ | omega) (by first | exact t ⟨h3, h10⟩ h18 | exact f2 h18 | exact f1 (fun z => h10 z.2) | exact f1 (fun z => h3 z.1))
    · refine j_dload_n (p2 := 15) dP_isWhole_14 rfl rfl ?_
      refine j_d2i (p2 := 16) dP_isWhole_15 rfl ?_
      refine j_i2d (p2 := 17) dP_isWhole_16 rfl ?_
      refine j_dload_n (p2 := 18) dP_isWhole_17 rfl rfl ?_
      refine j_dcmp_l_ne (p1 := 19) (p2 := 22) (tg := 26) dP_isWhole_18 rfl dP_isWhole_19 rfl (by decide) (fun h18 => ?_) (fun h18 => ?_)
      · refine j_iconst (p2 := 27) dP_isWhole_26 rfl ?_
        refine j_zreturn dP_isWhole_27 rfl (by first | exact Or.inl rfl | exact Or.inr rfl | exact bI_or _ | omega) (by first | exact t ⟨h3, h10⟩ h18 | exact f2 h18 | exact f1 (fun z => h10 z.2) | exact f1 (fun z => h3 z.1))
      · refine j_iconst (p2 := 23) dP_isWhole_22 rfl ?_
        refine j_goto (p2 := 27) dP_isWhole_23 (by decide) ?_
        refine j_zreturn dP_isWhole_27 rfl (by first | exact Or.inl rfl | exact Or.inr rfl | exact bI_or _ | omega) (by first | exact t ⟨h3, h10⟩ h18 | exact f2 h18 | exact f1 (fun z => h10 z.2) | exact f1 (fun z => h3 z.1))
theorem cP_fits {k : Int} {v : UInt64} (hk : inR k) (hv : vf_n64 v) (hQ : Q (some (vI (bI (isSet k v)))) σ) : Sp mP_fits [vI k, vD v] σ Q := by
  unfold isSet at hQ
  have e10 := szD_le (c := FP.dconst1) hv (by decide) (by unfold vf_n64; decide)
  have en : FP.dneg FP.dconst1 = 13830554455654793216 := by decide +kernel
  rw [en] at e10
  have sw : ∀ pc, (if k = 10 then 32 else if k = 11 then 47 else if k = 12 then 55 else if k = 13 then 75 else 83) = pc → J mP_fits pc [(1, vD v)] [] σ Q → J mP_fits 1 [(0, vI k), (1, vD v)] [vI k] σ Q := fun pc hpc hj => by
    rcases (by omega : k = 10 ∨ k = 11 ∨ k = 12 ∨ k = 13 ∨ (k < 10 ∨ 13 < k)) with g | g | g | g | g
    · rw [if_pos g] at hpc; subst hpc
      exact j_tsw_in (tg := 32) dP_fits_1 hk (by omega) (by omega) (by rw [g]; rfl) (by decide) (J.loc (lv' := [(1, _)]) ⟨rfl, trivial⟩ hj)
    · rw [if_neg (by omega), if_pos g] at hpc; subst hpc
      exact j_tsw_in (tg := 47) dP_fits_1 hk (by omega) (by omega) (by rw [g]; rfl) (by decide) (J.loc (lv' := [(1, _)]) ⟨rfl, trivial⟩ hj)
    · rw [if_neg (by omega), if_neg (by omega), if_pos g] at hpc; subst hpc
      exact j_tsw_in (tg := 55) dP_fits_1 hk (by omega) (by omega) (by rw [g]; rfl) (by decide) (J.loc (lv' := [(1, _)]) ⟨rfl, trivial⟩ hj)
    · rw [if_neg (by omega), if_neg (by omega), if_neg (by omega), if_pos g] at hpc; subst hpc
      exact j_tsw_in (tg := 75) dP_fits_1 hk (by omega) (by omega) (by rw [g]; rfl) (by decide) (J.loc (lv' := [(1, _)]) ⟨rfl, trivial⟩ hj)
    · rw [if_neg (by omega), if_neg (by omega), if_neg (by omega), if_neg (by omega)] at hpc; subst hpc
      exact j_tsw_out (tg := 83) dP_fits_1 hk (by omega) (by decide) (J.loc (lv' := [(1, _)]) ⟨rfl, trivial⟩ hj)
  refine j_iload_n (p2 := 1) dP_fits_0 rfl rfl ?_
  by_cases g10 : k = 10
  · rw [if_pos g10] at hQ
    refine sw 32 (by rw [if_pos g10]) ?_
    refine j_dload_n (p2 := 33) dP_fits_32 rfl rfl ?_
    refine j_callS (m' := mN_sizeOf) (As := [_]) (p2 := 36) dP_fits_33 rfl ml_P_59 ok_mN_sizeOf sm_mN_sizeOf rfl rfl (Nat.le_of_ble_eq_true rfl) (Nat.le_of_ble_eq_true rfl) ⟨(Nat.le_of_ble_eq_true rfl), (Nat.le_of_ble_eq_true rfl)⟩ ?_
    refine cN_sizeOf ?_
    refine j_dconst1 (p2 := 37) dP_fits_36 rfl ?_
    refine j_dcmp_g_gt (p1 := 38) (p2 := 41) (tg := 45) dP_fits_37 rfl dP_fits_38 rfl (by decide) (fun h37 => ?_) (fun h37 => ?_)
    · refine j_iconst (p2 := 46) dP_fits_45 rfl ?_
      refine j_zreturn dP_fits_46 rfl (by first | exact Or.inl rfl | exact Or.inr rfl | exact bI_or _ | omega) (by first | exact Q_b1 hQ (e10.mp h37) | exact Q_b0 hQ (fun z => h37 (e10.mpr z)))
    · refine j_iconst (p2 := 42) dP_fits_41 rfl ?_
      refine j_goto (p2 := 46) dP_fits_42 (by decide) ?_
      refine j_zreturn dP_fits_46 rfl (by first | exact Or.inl rfl | exact Or.inr rfl | exact bI_or _ | omega) (by first | exact Q_b1 hQ (e10.mp h37) | exact Q_b0 hQ (fun z => h37 (e10.mpr z)))
  · rw [if_neg g10] at hQ
    by_cases g11 : k = 11
    · rw [if_pos g11] at hQ
      refine sw 47 (by rw [if_neg g10, if_pos g11]) ?_
      refine j_dload_n (p2 := 48) dP_fits_47 rfl rfl ?_
      refine j_iconst (p2 := 49) dP_fits_48 rfl ?_
      refine j_bipush (v := 16) (p2 := 51) dP_fits_49 rfl rfl ?_
      refine j_callS (m' := mP_isWhole) (As := [_, _, _]) (p2 := 54) dP_fits_51 rfl ml_P_65 ok_mP_isWhole sm_mP_isWhole rfl rfl (Nat.le_of_ble_eq_true rfl) (Nat.le_of_ble_eq_true rfl) ⟨(Nat.le_of_ble_eq_true rfl), (Nat.le_of_ble_eq_true rfl)⟩ ?_
      refine cP_isWhole ?_
      rw [i2d_1, i2d_16]
      refine j_zreturn dP_fits_54 rfl (by first | exact Or.inl rfl | exact Or.inr rfl | exact bI_or _ | omega) (by exact hQ)
    · rw [if_neg g11] at hQ
      by_cases g12 : k = 12
      · rw [if_pos g12] at hQ
        refine sw 55 (by rw [if_neg g10, if_neg g11, if_pos g12]) ?_
        refine j_dload_n (p2 := 56) dP_fits_55 rfl rfl ?_
        refine j_dconst0 (p2 := 57) dP_fits_56 rfl ?_
        refine j_dcmp_l_lt (p1 := 58) (p2 := 61) (tg := 73) dP_fits_57 rfl dP_fits_58 rfl (by decide) (fun h57 => ?_) (fun h57 => ?_)
        · refine j_iconst (p2 := 74) dP_fits_73 rfl ?_
          refine j_zreturn dP_fits_74 rfl (by first | exact Or.inl rfl | exact Or.inr rfl | exact bI_or _ | omega) (by first | exact Q_b1 hQ ⟨h57, h65⟩ | exact Q_b0 hQ (fun z => h65 z.2) | exact Q_b0 hQ (fun z => h57 z.1))
        · refine j_dload_n (p2 := 62) dP_fits_61 rfl rfl ?_
          refine j_ldc2d (p2 := 65) dP_fits_62 rfl cw_P_69 ?_
          refine j_dcmp_g_gt (p1 := 66) (p2 := 69) (tg := 73) dP_fits_65 rfl dP_fits_66 rfl (by decide) (fun h65 => ?_) (fun h65 => ?_)
          · refine j_iconst (p2 := 74) dP_fits_73 rfl ?_
            refine j_zreturn dP_fits_74 rfl (by first | exact Or.inl rfl | exact Or.inr rfl | exact bI_or _ | omega) (by first | exact Q_b1 hQ ⟨h57, h65⟩ | exact Q_b0 hQ (fun z => h65 z.2) | exact Q_b0 hQ (fun z => h57 z.1))
          · refine j_iconst (p2 := 70) dP_fits_69 rfl ?_
            refine j_goto (p2 := 74) dP_fits_70 (by decide) ?_
            refine j_zreturn dP_fits_74 rfl (by first | exact Or.inl rfl | exact Or.inr rfl | exact bI_or _ | omega) (by first | exact Q_b1 hQ ⟨h57, h65⟩ | exact Q_b0 hQ (fun z => h65 z.2) | exact Q_b0 hQ (fun z => h57 z.1))
      · rw [if_neg g12] at hQ
        by_cases g13 : k = 13
        · rw [if_pos g13] at hQ
          refine sw 75 (by rw [if_neg g10, if_neg g11, if_neg g12, if_pos g13]) ?_
          refine j_dload_n (p2 := 76) dP_fits_75 rfl rfl ?_
          refine j_iconst (p2 := 77) dP_fits_76 rfl ?_
          refine j_ldc (p2 := 79) dP_fits_77 rfl cw_P_71 ?_
          refine j_callS (m' := mP_isWhole) (As := [_, _, _]) (p2 := 82) dP_fits_79 rfl ml_P_65 ok_mP_isWhole sm_mP_isWhole rfl rfl (Nat.le_of_ble_eq_true rfl) (Nat.le_of_ble_eq_true rfl) ⟨(Nat.le_of_ble_eq_true rfl), (Nat.le_of_ble_eq_true rfl)⟩ ?_
          refine cP_isWhole ?_
          rw [i2d_0, i2d_M]
          refine j_zreturn dP_fits_82 rfl (by first | exact Or.inl rfl | exact Or.inr rfl | exact bI_or _ | omega) (by exact hQ)
        · rw [if_neg g13] at hQ
          refine sw 83 (by rw [if_neg g10, if_neg g11, if_neg g12, if_neg g13]) ?_
          refine j_dload_n (p2 := 84) dP_fits_83 rfl rfl ?_
          refine j_dconst0 (p2 := 85) dP_fits_84 rfl ?_
          refine j_dcmp_l_ne (p1 := 86) (p2 := 89) (tg := 93) dP_fits_85 rfl dP_fits_86 rfl (by decide) (fun h85 => ?_) (fun h85 => ?_)
          · refine j_iconst (p2 := 94) dP_fits_93 rfl ?_
            refine j_zreturn dP_fits_94 rfl (by first | exact Or.inl rfl | exact Or.inr rfl | exact bI_or _ | omega) (by first | exact Q_b1 hQ h85 | exact Q_b0 hQ h85)
          · refine j_iconst (p2 := 90) dP_fits_89 rfl ?_
            refine j_goto (p2 := 94) dP_fits_90 (by decide) ?_
            refine j_zreturn dP_fits_94 rfl (by first | exact Or.inl rfl | exact Or.inr rfl | exact bI_or _ | omega) (by first | exact Q_b1 hQ h85 | exact Q_b0 hQ h85)
theorem cP_has {m : Int} (hm : inR m) (hn : 0 ≤ hI σ 3 0 ∧ hI σ 3 0 ≤ 20) (hQ : Q (some (vI (bI (decide (0 ≤ m ∧ m < hI σ 3 0))))) σ) : Sp mP_has [vR 3, vI m] σ Q := by
  refine j_iload_n (p2 := 1) dP_has_0 rfl rfl ?_
  refine j_if_lt (p2 := 4) (tg := 16) dP_has_1 rfl (by decide) (by constructor <;> omega) (fun h1 => ?_) (fun h1 => ?_)
  · refine j_iconst (p2 := 17) dP_has_16 rfl ?_
    refine j_zreturn dP_has_17 rfl (by first | exact Or.inl rfl | exact Or.inr rfl | exact bI_or _ | omega) (by first | exact Q_b1 hQ (by omega) | exact Q_b0 hQ (by omega))
  · refine j_iload_n (p2 := 5) dP_has_4 rfl rfl ?_
    refine j_aload_n (p2 := 6) dP_has_5 rfl rfl ?_
    refine j_getIk (p2 := 9) dP_has_6 rfl fa_P_72 ly_3 rfl (ki := 0) rfl ?_
    refine j_icmp_ge (p2 := 12) (tg := 16) dP_has_9 rfl (by decide) (by constructor <;> omega) (by constructor <;> omega) (fun h9 => ?_) (fun h9 => ?_)
    · refine j_iconst (p2 := 17) dP_has_16 rfl ?_
      refine j_zreturn dP_has_17 rfl (by first | exact Or.inl rfl | exact Or.inr rfl | exact bI_or _ | omega) (by first | exact Q_b1 hQ (by omega) | exact Q_b0 hQ (by omega))
    · refine j_iconst (p2 := 13) dP_has_12 rfl ?_
      refine j_goto (p2 := 17) dP_has_13 (by decide) ?_
      refine j_zreturn dP_has_17 rfl (by first | exact Or.inl rfl | exact Or.inr rfl | exact bI_or _ | omega) (by first | exact Q_b1 hQ (by omega) | exact Q_b0 hQ (by omega))
theorem cP_set {m : Int} {x : Int64} (hm : 0 ≤ m ∧ m < 20) (hQ : Q none (wD (wL σ 5 (fup (hL σ 5) m x)) 6 (fup (hD σ 6) m (dec x)))) : Sp mP_set [vR 3, vI m, vL x] σ Q := by
  refine j_aload_n (p2 := 1) dP_set_0 rfl rfl ?_
  refine j_getR (p2 := 4) dP_set_1 rfl fa_P_26 ly_3 rfl ?_
  refine j_iload_n (p2 := 5) dP_set_4 rfl rfl ?_
  refine j_lload_n (p2 := 6) dP_set_5 rfl rfl ?_
  refine j_lastk (p2 := 7) dP_set_6 rfl ly_5 (by decide) (by omega) (by omega) ?_
  refine j_aload_n (p2 := 8) dP_set_7 rfl rfl ?_
  refine j_getR (p2 := 11) dP_set_8 rfl fa_P_30 ly_3 rfl ?_
  refine j_iload_n (p2 := 12) dP_set_11 rfl rfl ?_
  refine j_lload_n (p2 := 13) dP_set_12 rfl rfl ?_
  refine j_callS (m' := mN_decoded) (As := [_]) (p2 := 16) dP_set_13 rfl ml_P_79 ok_mN_decoded sm_mN_decoded rfl rfl (Nat.le_of_ble_eq_true rfl) (Nat.le_of_ble_eq_true rfl) ⟨(Nat.le_of_ble_eq_true rfl), (Nat.le_of_ble_eq_true rfl)⟩ ?_
  refine cN_decoded ?_
  refine j_dastk (p2 := 17) dP_set_16 rfl ly_6 (by decide) (by omega) (by omega) ?_
  refine j_return dP_set_17 rfl (by exact hQ)
theorem cP_tie {m i o : Int} {b : Bool} (hm : 0 ≤ m ∧ m < 20) (hi : 0 ≤ i ∧ i < 6) (ho : inR o) (hQ : Q none (wI (wI (wI σ 9 (fup (hI σ 9) (m * 6 + i) o)) 10 (fup (hI σ 10) (m * 6 + i) (bI (b && decide (¬ o = -1))))) 3 (fup (hI σ 3) 3 1))) : Sp mP_tie [vR 3, vI m, vI i, vI o, vI (bI b)] σ Q := by
  have fin : ∀ x, bI (b && decide (¬ o = -1)) = x → Q none (wI (wI (wI σ 9 (fup (hI σ 9) (m * 6 + i) o)) 10 (fup (hI σ 10) (m * 6 + i) x)) 3 (fup (hI σ 3) 3 1)) := fun x hx => by rw [← hx]; exact hQ
  refine j_aload_n (p2 := 1) dP_tie_0 rfl rfl ?_
  refine j_getR (p2 := 4) dP_tie_1 rfl fa_P_40 ly_3 rfl ?_
  refine j_iload_n (p2 := 5) dP_tie_4 rfl rfl ?_
  refine j_bipush (v := 6) (p2 := 7) dP_tie_5 rfl rfl ?_
  refine j_imul (p2 := 8) dP_tie_7 rfl ?_
  refine j_iload_n (p2 := 9) dP_tie_8 rfl rfl ?_
  refine j_iadd (p2 := 10) dP_tie_9 rfl ?_
  refine j_iload_n (p2 := 11) dP_tie_10 rfl rfl ?_
  refine j_iastk (p2 := 12) dP_tie_11 rfl ly_9 (by decide) (by omega) (by omega) ?_
  refine j_aload_n (p2 := 13) dP_tie_12 rfl rfl ?_
  refine j_getR (p2 := 16) dP_tie_13 rfl fa_P_43 ly_3 rfl ?_
  refine j_iload_n (p2 := 17) dP_tie_16 rfl rfl ?_
  refine j_bipush (v := 6) (p2 := 19) dP_tie_17 rfl rfl ?_
  refine j_imul (p2 := 20) dP_tie_19 rfl ?_
  refine j_iload_n (p2 := 21) dP_tie_20 rfl rfl ?_
  refine j_iadd (p2 := 22) dP_tie_21 rfl ?_
  refine j_iload (p2 := 24) dP_tie_22 rfl rfl ?_
  refine j_ifb_eq (p2 := 27) (tg := 36) dP_tie_24 rfl (by decide) (fun h24 => ?_) (fun h24 => ?_)
  · refine j_iconst (p2 := 37) dP_tie_36 rfl ?_
    refine j_zastk (p2 := 38) dP_tie_37 rfl ly_10 (by decide) (by omega) (by omega) (by first | exact Or.inl rfl | exact Or.inr rfl) ?_
    refine j_aload_n (p2 := 39) dP_tie_38 rfl rfl ?_
    refine j_iconst (p2 := 40) dP_tie_39 rfl ?_
    refine j_putZk (p2 := 43) dP_tie_40 rfl fw_P_18 ly_3 rfl (ki := 3) rfl (by first | exact Or.inl rfl | exact Or.inr rfl | exact bI_or _ | omega) ?_
    refine j_return dP_tie_43 rfl (by first | exact fin _ (by rw [h24]; rfl) | exact fin _ (by rw [h24, decide_eq_true h29]; rfl) | exact fin _ (by rw [h24, decide_eq_false (fun q => q h29)]; rfl))
  · refine j_iload_n (p2 := 28) dP_tie_27 rfl rfl ?_
    refine j_iconst (p2 := 29) dP_tie_28 rfl ?_
    refine j_icmp_eq (p2 := 32) (tg := 36) dP_tie_29 rfl (by decide) (by constructor <;> omega) (by constructor <;> omega) (fun h29 => ?_) (fun h29 => ?_)
    · refine j_iconst (p2 := 37) dP_tie_36 rfl ?_
      refine j_zastk (p2 := 38) dP_tie_37 rfl ly_10 (by decide) (by omega) (by omega) (by first | exact Or.inl rfl | exact Or.inr rfl) ?_
      refine j_aload_n (p2 := 39) dP_tie_38 rfl rfl ?_
      refine j_iconst (p2 := 40) dP_tie_39 rfl ?_
      refine j_putZk (p2 := 43) dP_tie_40 rfl fw_P_18 ly_3 rfl (ki := 3) rfl (by first | exact Or.inl rfl | exact Or.inr rfl | exact bI_or _ | omega) ?_
      refine j_return dP_tie_43 rfl (by first | exact fin _ (by rw [h24]; rfl) | exact fin _ (by rw [h24, decide_eq_true h29]; rfl) | exact fin _ (by rw [h24, decide_eq_false (fun q => q h29)]; rfl))
    · refine j_iconst (p2 := 33) dP_tie_32 rfl ?_
      refine j_goto (p2 := 37) dP_tie_33 (by decide) ?_
      refine j_zastk (p2 := 38) dP_tie_37 rfl ly_10 (by decide) (by omega) (by omega) (by first | exact Or.inl rfl | exact Or.inr rfl) ?_
      refine j_aload_n (p2 := 39) dP_tie_38 rfl rfl ?_
      refine j_iconst (p2 := 40) dP_tie_39 rfl ?_
      refine j_putZk (p2 := 43) dP_tie_40 rfl fw_P_18 ly_3 rfl (ki := 3) rfl (by first | exact Or.inl rfl | exact Or.inr rfl | exact bI_or _ | omega) ?_
      refine j_return dP_tie_43 rfl (by first | exact fin _ (by rw [h24]; rfl) | exact fin _ (by rw [h24, decide_eq_true h29]; rfl) | exact fin _ (by rw [h24, decide_eq_false (fun q => q h29)]; rfl))
theorem cP_isBehindPoints {m : Int} {v : UInt64} (hm : 0 ≤ m ∧ m < 20) (hp : 0 ≤ hI σ 11 m ∧ hI σ 11 m ≤ 8) (hv : vf_n64 v) (hx : ∀ k : Int, 0 ≤ k → k < 160 → vf_n64 (hD σ 12 k)) (hQ : Q (some (vI (bI (decide (0 < hI σ 11 m → FP.dcmp v (hD σ 12 (8 * m + hI σ 11 m - 1)) = some .gt ∧ FP.fcmp (FP.d2f v) (FP.d2f (hD σ 12 (8 * m + hI σ 11 m - 1))) = some .gt))))) σ) : Sp mP_isBehindPoints [vR 3, vI m, vD v] σ Q := by
  have e : m * 8 + hI σ 11 m - 1 = 8 * m + hI σ 11 m - 1 := by omega
  refine j_aload_n (p2 := 1) dP_isBehindPoints_0 rfl rfl ?_
  refine j_getR (p2 := 4) dP_isBehindPoints_1 rfl fa_P_47 ly_3 rfl ?_
  refine j_iload_n (p2 := 5) dP_isBehindPoints_4 rfl rfl ?_
  refine j_iald (p2 := 6) dP_isBehindPoints_5 rfl ly_11 (by decide) (by omega) (by omega) ?_
  refine j_if_ne (p2 := 9) (tg := 11) dP_isBehindPoints_6 rfl (by decide) (by constructor <;> omega) (fun h6 => ?_) (fun h6 => ?_)
  · refine j_aload_n (p2 := 12) dP_isBehindPoints_11 rfl rfl ?_
    refine j_getR (p2 := 15) dP_isBehindPoints_12 rfl fa_P_50 ly_3 rfl ?_
    refine j_iload_n (p2 := 16) dP_isBehindPoints_15 rfl rfl ?_
    refine j_bipush (v := 8) (p2 := 18) dP_isBehindPoints_16 rfl rfl ?_
    refine j_imul (p2 := 19) dP_isBehindPoints_18 rfl ?_
    refine j_aload_n (p2 := 20) dP_isBehindPoints_19 rfl rfl ?_
    refine j_getR (p2 := 23) dP_isBehindPoints_20 rfl fa_P_47 ly_3 rfl ?_
    refine j_iload_n (p2 := 24) dP_isBehindPoints_23 rfl rfl ?_
    refine j_iald (p2 := 25) dP_isBehindPoints_24 rfl ly_11 (by decide) (by omega) (by omega) ?_
    refine j_iadd (p2 := 26) dP_isBehindPoints_25 rfl ?_
    refine j_iconst (p2 := 27) dP_isBehindPoints_26 rfl ?_
    refine j_isub (p2 := 28) dP_isBehindPoints_27 rfl ?_
    refine j_dald (p2 := 29) dP_isBehindPoints_28 rfl ly_12 (by decide) (by omega) (by omega) ?_
    refine j_dstore (p2 := 31) (lv' := [(2, _), (4, _)]) dP_isBehindPoints_29 rfl (Nat.le_of_ble_eq_true rfl) ⟨rfl, rfl, trivial⟩ ?_
    refine j_dload_n (p2 := 32) dP_isBehindPoints_31 rfl rfl ?_
    refine j_dload (p2 := 34) dP_isBehindPoints_32 rfl rfl ?_
    refine j_dcmp_l_le (p1 := 35) (p2 := 38) (tg := 51) dP_isBehindPoints_34 rfl dP_isBehindPoints_35 rfl (by decide) (fun h34 => ?_) (fun h34 => ?_)
    · refine j_iconst (p2 := 52) dP_isBehindPoints_51 rfl ?_
      refine j_zreturn dP_isBehindPoints_52 rfl (by first | exact Or.inl rfl | exact Or.inr rfl | exact bI_or _ | omega) (by first | exact Q_b1 hQ (fun z => absurd z (by omega)) | (rw [e] at h34 h43; exact Q_b1 hQ (fun _ => ⟨h34, h43⟩)) | (rw [e] at h43; exact Q_b0 hQ (fun z => h43 (z (by omega)).2)) | (rw [e] at h34; exact Q_b0 hQ (fun z => h34 (z (by omega)).1)))
    · refine j_dload_n (p2 := 39) dP_isBehindPoints_38 rfl rfl ?_
      refine j_d2f (p2 := 40) dP_isBehindPoints_39 rfl (d2f_nn hv) ?_
      refine j_dload (p2 := 42) dP_isBehindPoints_40 rfl rfl ?_
      refine j_d2f (p2 := 43) dP_isBehindPoints_42 rfl (d2f_nn (hx _ (by omega) (by omega))) ?_
      refine j_fcmp_l_le (p1 := 44) (p2 := 47) (tg := 51) dP_isBehindPoints_43 rfl dP_isBehindPoints_44 rfl (by decide) (fun h43 => ?_) (fun h43 => ?_)
      · refine j_iconst (p2 := 52) dP_isBehindPoints_51 rfl ?_
        refine j_zreturn dP_isBehindPoints_52 rfl (by first | exact Or.inl rfl | exact Or.inr rfl | exact bI_or _ | omega) (by first | exact Q_b1 hQ (fun z => absurd z (by omega)) | (rw [e] at h34 h43; exact Q_b1 hQ (fun _ => ⟨h34, h43⟩)) | (rw [e] at h43; exact Q_b0 hQ (fun z => h43 (z (by omega)).2)) | (rw [e] at h34; exact Q_b0 hQ (fun z => h34 (z (by omega)).1)))
      · refine j_iconst (p2 := 48) dP_isBehindPoints_47 rfl ?_
        refine j_goto (p2 := 52) dP_isBehindPoints_48 (by decide) ?_
        refine j_zreturn dP_isBehindPoints_52 rfl (by first | exact Or.inl rfl | exact Or.inr rfl | exact bI_or _ | omega) (by first | exact Q_b1 hQ (fun z => absurd z (by omega)) | (rw [e] at h34 h43; exact Q_b1 hQ (fun _ => ⟨h34, h43⟩)) | (rw [e] at h43; exact Q_b0 hQ (fun z => h43 (z (by omega)).2)) | (rw [e] at h34; exact Q_b0 hQ (fun z => h34 (z (by omega)).1)))
  · refine j_iconst (p2 := 10) dP_isBehindPoints_9 rfl ?_
    refine j_zreturn dP_isBehindPoints_10 rfl (by first | exact Or.inl rfl | exact Or.inr rfl | exact bI_or _ | omega) (by first | exact Q_b1 hQ (fun z => absurd z (by omega)) | (rw [e] at h34 h43; exact Q_b1 hQ (fun _ => ⟨h34, h43⟩)) | (rw [e] at h43; exact Q_b0 hQ (fun z => h43 (z (by omega)).2)) | (rw [e] at h34; exact Q_b0 hQ (fun z => h34 (z (by omega)).1)))
theorem cP_addPoint {m : Int} {v w : UInt64} (hm : 0 ≤ m ∧ m < 20) (hp : 0 ≤ hI σ 11 m ∧ hI σ 11 m < 8) (hQ : Q (some (vI (hI σ 11 m + 1))) (wI (wD (wD σ 12 (fup (hD σ 12) (8 * m + hI σ 11 m) v)) 13 (fup (hD σ 13) (8 * m + hI σ 11 m) w)) 11 (fup (hI σ 11) m (hI σ 11 m + 1)))) : Sp mP_addPoint [vR 3, vI m, vD v, vD w] σ Q := by
  have e : m * 8 + hI σ 11 m = 8 * m + hI σ 11 m := by omega
  rw [← e] at hQ
  refine j_iload_n (p2 := 1) dP_addPoint_0 rfl rfl ?_
  refine j_bipush (v := 8) (p2 := 3) dP_addPoint_1 rfl rfl ?_
  refine j_imul (p2 := 4) dP_addPoint_3 rfl ?_
  refine j_aload_n (p2 := 5) dP_addPoint_4 rfl rfl ?_
  refine j_getR (p2 := 8) dP_addPoint_5 rfl fa_P_47 ly_3 rfl ?_
  refine j_iload_n (p2 := 9) dP_addPoint_8 rfl rfl ?_
  refine j_iald (p2 := 10) dP_addPoint_9 rfl ly_11 (by decide) (by omega) (by omega) ?_
  refine j_iadd (p2 := 11) dP_addPoint_10 rfl ?_
  refine j_istore (p2 := 13) (lv' := [(0, _), (1, _), (2, _), (4, _), (6, _)]) dP_addPoint_11 rfl (Nat.le_of_ble_eq_true rfl) ⟨rfl, rfl, rfl, rfl, rfl, trivial⟩ ?_
  refine j_aload_n (p2 := 14) dP_addPoint_13 rfl rfl ?_
  refine j_getR (p2 := 17) dP_addPoint_14 rfl fa_P_50 ly_3 rfl ?_
  refine j_iload (p2 := 19) dP_addPoint_17 rfl rfl ?_
  refine j_dload_n (p2 := 20) dP_addPoint_19 rfl rfl ?_
  refine j_dastk (p2 := 21) dP_addPoint_20 rfl ly_12 (by decide) (by omega) (by omega) ?_
  refine j_aload_n (p2 := 22) dP_addPoint_21 rfl rfl ?_
  refine j_getR (p2 := 25) dP_addPoint_22 rfl fa_P_53 ly_3 rfl ?_
  refine j_iload (p2 := 27) dP_addPoint_25 rfl rfl ?_
  refine j_dload (p2 := 29) dP_addPoint_27 rfl rfl ?_
  refine j_dastk (p2 := 30) dP_addPoint_29 rfl ly_13 (by decide) (by omega) (by omega) ?_
  refine j_aload_n (p2 := 31) dP_addPoint_30 rfl rfl ?_
  refine j_getR (p2 := 34) dP_addPoint_31 rfl fa_P_47 ly_3 rfl ?_
  refine j_iload_n (p2 := 35) dP_addPoint_34 rfl rfl ?_
  refine j_dup2 (p2 := 36) dP_addPoint_35 rfl rfl rfl ?_
  refine j_iald (p2 := 37) dP_addPoint_36 rfl ly_11 (by decide) (by omega) (by omega) ?_
  refine j_iconst (p2 := 38) dP_addPoint_37 rfl ?_
  refine j_iadd (p2 := 39) dP_addPoint_38 rfl ?_
  refine j_iastk (p2 := 40) dP_addPoint_39 rfl ly_11 (by decide) (by omega) (by omega) ?_
  refine j_aload_n (p2 := 41) dP_addPoint_40 rfl rfl ?_
  refine j_getR (p2 := 44) dP_addPoint_41 rfl fa_P_47 ly_3 rfl ?_
  refine j_iload_n (p2 := 45) dP_addPoint_44 rfl rfl ?_
  refine j_iald (p2 := 46) dP_addPoint_45 rfl ly_11 (by decide) (by omega) (by omega) ?_
  refine j_ireturn dP_addPoint_46 rfl (by exact Q_of hQ (congrArg (fun z => some (vI z)) (fup_s _ _ _).symm) rfl)
theorem cP_leastFailingAt {N : Nat} {t : Int} (hN : hI σ 3 0 = N ∧ N ≤ 20) (ht : inR t) (hf : ∀ m : Int, 0 ≤ m → m < N → inR (hI σ 14 m)) (hQ : Q (some (vI (match fnd (fun m => decide (hI σ 14 m = t)) N 0 with | some m => m | none => -1))) σ) : Sp mP_leastFailingAt [vR 3, vI t] σ Q := by
  obtain ⟨hN, hN2⟩ := hN
  have loop : ∀ (d i : Nat), i + d = N → Q (some (vI (match fnd (fun m => decide (hI σ 14 m = t)) d i with | some m => m | none => -1))) σ → J mP_leastFailingAt 2 [(0, vR 3), (1, vI t), (2, vI i)] [] σ Q := by
    intro d
    induction d with
    | zero =>
      intro i h1 hq
      refine j_iload_n (p2 := 3) dP_leastFailingAt_2 rfl rfl ?_
      refine j_aload_n (p2 := 4) dP_leastFailingAt_3 rfl rfl ?_
      refine j_getIk (p2 := 7) dP_leastFailingAt_4 rfl fa_P_72 ly_3 rfl (ki := 0) rfl ?_
      refine j_icmp_ge (p2 := 10) (tg := 28) dP_leastFailingAt_7 rfl (by decide) (by constructor <;> omega) (by constructor <;> omega) (fun h7 => ?_) (fun h7 => ?_)
      · refine j_iconst (p2 := 29) dP_leastFailingAt_28 rfl ?_
        refine j_ireturn dP_leastFailingAt_29 rfl (by exact hq)
      · exfalso
        omega
    | succ d ih =>
      intro i h1 hq
      have yes : hI σ 14 i = t → Q (some (vI (i : Int))) σ := fun c => by
        have e : fnd (fun m => decide (hI σ 14 m = t)) (d + 1) i = some (i : Int) := if_pos (decide_eq_true c)
        rw [e] at hq; exact hq
      have no : ¬ hI σ 14 i = t → J mP_leastFailingAt 2 [(0, vR 3), (1, vI t), (2, vI (i + 1))] [] σ Q := fun c => by
        have e : fnd (fun m => decide (hI σ 14 m = t)) (d + 1) i = fnd (fun m => decide (hI σ 14 m = t)) d (i + 1) := if_neg (fun q => c (of_decide_eq_true q))
        rw [e] at hq
        exact ih (i + 1) (by omega) hq
      have hfi := hf i (by omega) (by omega)
      refine j_iload_n (p2 := 3) dP_leastFailingAt_2 rfl rfl ?_
      refine j_aload_n (p2 := 4) dP_leastFailingAt_3 rfl rfl ?_
      refine j_getIk (p2 := 7) dP_leastFailingAt_4 rfl fa_P_72 ly_3 rfl (ki := 0) rfl ?_
      refine j_icmp_ge (p2 := 10) (tg := 28) dP_leastFailingAt_7 rfl (by decide) (by constructor <;> omega) (by constructor <;> omega) (fun h7 => ?_) (fun h7 => ?_)
      · refine j_iconst (p2 := 29) dP_leastFailingAt_28 rfl ?_
        refine j_ireturn dP_leastFailingAt_29 rfl (by first | (exfalso; omega) | exact yes h17)
      · refine j_aload_n (p2 := 11) dP_leastFailingAt_10 rfl rfl ?_
        refine j_getR (p2 := 14) dP_leastFailingAt_11 rfl fa_P_56 ly_3 rfl ?_
        refine j_iload_n (p2 := 15) dP_leastFailingAt_14 rfl rfl ?_
        refine j_iald (p2 := 16) dP_leastFailingAt_15 rfl ly_14 (by decide) (by omega) (by omega) ?_
        refine j_iload_n (p2 := 17) dP_leastFailingAt_16 rfl rfl ?_
        refine j_icmp_ne (p2 := 20) (tg := 22) dP_leastFailingAt_17 rfl (by decide) (by exact hfi) (by exact ht) (fun h17 => ?_) (fun h17 => ?_)
        · refine j_iinc (p2 := 25) (lv' := [(0, _), (1, _), (2, _)]) dP_leastFailingAt_22 rfl (Nat.le_of_ble_eq_true rfl) rfl ⟨rfl, rfl, rfl, trivial⟩ ?_
          refine j_goto (p2 := 2) dP_leastFailingAt_25 (by decide) ?_
          refine J.loc (lv' := [(0, _), (1, _), (2, _)]) ⟨rfl, rfl, rfl, trivial⟩ ?_
          exact no h17
        · refine j_iload_n (p2 := 21) dP_leastFailingAt_20 rfl rfl ?_
          refine j_ireturn dP_leastFailingAt_21 rfl (by first | (exfalso; omega) | exact yes h17)
  refine j_iconst (p2 := 1) dP_leastFailingAt_0 rfl ?_
  refine j_istore_n (p2 := 2) (lv' := [(0, _), (1, _), (2, _)]) dP_leastFailingAt_1 rfl (Nat.le_of_ble_eq_true rfl) ⟨rfl, rfl, rfl, trivial⟩ ?_
  refine J.loc (lv' := [(0, _), (1, _), (2, _)]) ⟨rfl, rfl, rfl, trivial⟩ ?_
  exact loop N 0 (by omega) hQ
end PAT1
