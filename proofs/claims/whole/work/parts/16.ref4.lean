/-! ===== the reference: tables ===== -/
abbrev xF (f : Int → UInt64) : Int → UInt32 := fun k => FP.d2f (f k)
/-- a table as the document lets it be: 2 to 8 points, rising, in both twins, all small -/
abbrev TbR (np : Int) (xs ys : Int → UInt64) (m : Int) : Prop := 2 ≤ np ∧ np ≤ 8 ∧ (∀ j : Int, 0 ≤ j → j < 160 → mg (xs j) 1024 ∧ mg (ys j) 1024) ∧ ∀ j : Int, 0 ≤ j → j < np - 1 → FP.dcmp (xs (8 * m + j)) (xs (8 * m + j + 1)) = some .lt ∧ FP.fcmp (FP.d2f (xs (8 * m + j))) (FP.d2f (xs (8 * m + j + 1))) = some .lt
theorem mf_mul {a b : UInt32} {K L : Nat} (ha : mf a K) (hb : mf b L) (hK : K ≤ 255) (hL : L ≤ 255) : FP.Core.fIsNaN (FP.fmul a b) = false := FP.Core.fmul_out (ha.fin hK) (hb.fin hL)
theorem nn_mul {a b : UInt64} (ha : FP.Core.DFin a) (hb : FP.Core.DFin b) : vf_n64 (FP.dmul a b) := vn64_of (FP.Core.dmul_out ha hb)
theorem nnf_mul {a b : UInt32} (ha : FP.Core.FFin a) (hb : FP.Core.FFin b) : vf_n32 (FP.fmul a b) := vn32_of (FP.Core.fmul_out ha hb)
theorem nn_add {a b : UInt64} (ha : vf_n64 a) (hb : FP.Core.DFin b) : vf_n64 (FP.dadd a b) := vn64_of (FP.Core.dadd_out (vn64_to ha) hb)
theorem nnf_add {a b : UInt32} (ha : vf_n32 a) (hb : FP.Core.FFin b) : vf_n32 (FP.fadd a b) := vn32_of (FP.Core.fadd_out (vn32_to ha) hb)
theorem nn_div2 {a b : UInt64} (ha : vf_n64 a) (hb : FP.Core.DFin b) (hz : ¬ FP.dcmp b FP.dconst0 = some .eq) : vf_n64 (FP.ddiv a b) := vn64_of (FP.Core.ddiv_out (vn64_to ha) hb (fun h => hz (FP.Core.zero_iff.mpr h)))
theorem nnf_div2 {a b : UInt32} (ha : vf_n32 a) (hb : FP.Core.FFin b) (hz : ¬ FP.fcmp b FP.fconst0 = some .eq) : vf_n32 (FP.fdiv a b) := vn32_of (FP.Core.fdiv_out (vn32_to ha) hb (fun h => hz (FP.Core.zero_iff32.mpr h)))
section REF4
variable {σ : Hp} {Q : Option PV → Hp → Prop}
theorem gtab_D (xs ys : Int → UInt64) (np m : Int) (a : UInt64) : gtab arD xs ys np m a = (if FP.dcmp a (xs (8 * m)) = some .lt ∨ FP.dcmp a (xs (8 * m)) = some .eq then ys (8 * m)
  else if FP.dcmp a (xs (8 * m + np - 1)) = some .gt ∨ FP.dcmp a (xs (8 * m + np - 1)) = some .eq then ys (8 * m + np - 1)
  else FP.dadd (FP.ddiv (FP.dmul (FP.dsub a (xs (gfk arD xs a 8 (8 * m)))) (FP.dsub (ys (gfk arD xs a 8 (8 * m) + 1)) (ys (gfk arD xs a 8 (8 * m))))) (FP.dsub (xs (gfk arD xs a 8 (8 * m) + 1)) (xs (gfk arD xs a 8 (8 * m))))) (ys (gfk arD xs a 8 (8 * m)))) := rfl
theorem gfk_D (xs : Int → UInt64) (a : UInt64) (n : Nat) (k : Int) : gfk arD xs a (n + 1) k = if FP.dcmp (xs (k + 1)) a = some .lt ∨ FP.dcmp (xs (k + 1)) a = some .eq then gfk arD xs a n (k + 1) else k := rfl
theorem cM_table {m : Int} {a : UInt64} (hm : 0 ≤ m ∧ m < 20) (ha : mg a 1024) (hT : TbR (hI σ 75 m) (hD σ 76) (hD σ 77) m) (hQ : vf_n64 (gtab arD (hD σ 76) (hD σ 77) (hI σ 75 m) m a) → Q (some (vD (gtab arD (hD σ 76) (hD σ 77) (hI σ 75 m) m a))) σ) : Sp mM_table [vR 69, vI m, vD a] σ Q := by
  obtain ⟨hn1, hn2, hx, hsrt⟩ := hT
  rw [gtab_D] at hQ
  obtain ⟨K, hKd⟩ : ∃ K, K = gfk arD (hD σ 76) a 8 (8 * m) := ⟨_, rfl⟩
  rw [← hKd] at hQ
  have hxs : ∀ j : Int, 0 ≤ j → j < 160 → mg (hD σ 76 (j)) 1024 := fun j h0 h1 => (hx j h0 h1).1
  have hys : ∀ j : Int, 0 ≤ j → j < 160 → mg (hD σ 77 (j)) 1024 := fun j h0 h1 => (hx j h0 h1).2
  have nnx : ∀ j : Int, 0 ≤ j → j < 160 → vf_n64 (hD σ 76 j) := fun j h0 h1 => ((hx j h0 h1).1).nn (by decide)
  have nny : ∀ j : Int, 0 ≤ j → j < 160 → vf_n64 (hD σ 77 j) := fun j h0 h1 => ((hx j h0 h1).2).nn (by decide)
  have loop : (¬ (FP.dcmp a (hD σ 76 (8 * m)) = some .lt ∨ FP.dcmp a (hD σ 76 (8 * m)) = some .eq)) → (¬ (FP.dcmp a (hD σ 76 (8 * m + hI σ 75 m - 1)) = some .gt ∨ FP.dcmp a (hD σ 76 (8 * m + hI σ 75 m - 1)) = some .eq)) →
      ∀ (n : Nat) (k : Int), 8 * m ≤ k → k + 1 ≤ 8 * m + hI σ 75 m - 1 → 8 * m + hI σ 75 m - 1 - k ≤ n → K = gfk arD (hD σ 76) a n k → J mM_table 63 [(0, vR 69), (2, vD a), (6, vI k)] [] σ Q := by
    intro c1 c2 n
    rw [if_neg c1, if_neg c2] at hQ
    induction n with
    | zero => intro k h1 h2 h3; exact absurd h3 (by omega)
    | succ n ih =>
      intro k h1 h2 h3 h4
      rw [gfk_D] at h4
      have hst : FP.dcmp (hD σ 76 (k)) (hD σ 76 (k + 1)) = some .lt := by
        have := (hsrt (k - 8 * m) (by omega) (by omega)).1
        have e1 : 8 * m + (k - 8 * m) = k := by omega
        rw [e1] at this; exact this
      have wz : ¬ FP.dcmp (FP.dsub (hD σ 76 (k + 1)) (hD σ 76 (k))) FP.dconst0 = some .eq := by
        rw [dsub_pos ((hxs k (by omega) (by omega)).fin (by decide)) ((hxs (k + 1) (by omega) (by omega)).fin (by decide)) hst]
        exact fun q => by cases q
      have s1 := mg_sub ha (hxs k (by omega) (by omega)) (by decide)
      have s2 := mg_sub (hys (k + 1) (by omega) (by omega)) (hys k (by omega) (by omega)) (by decide)
      have s3 := mg_sub (hxs (k + 1) (by omega) (by omega)) (hxs k (by omega) (by omega)) (by decide)
      have o1 := s1.nn (by decide)
      have o2 := s2.nn (by decide)
      have o3 := s3.nn (by decide)
      have o4 := nn_mul (s1.fin (by decide)) (s2.fin (by decide))
      have o5 := nn_div2 o4 (s3.fin (by decide)) wz
      have o6 := nn_add o5 ((hys k (by omega) (by omega)).fin (by decide))
      have fin : K = k → Q (some (vD (FP.dadd (FP.ddiv (FP.dmul (FP.dsub a (hD σ 76 (k))) (FP.dsub (hD σ 77 (k + 1)) (hD σ 77 (k)))) (FP.dsub (hD σ 76 (k + 1)) (hD σ 76 (k)))) (hD σ 77 (k))))) σ := fun hk => by
        rw [hk] at hQ; exact hQ o6
      refine j_aload_n (p2 := 64) dM_table_63 rfl rfl ?_
      refine j_getR (p2 := 67) dM_table_64 rfl fa_M_30 ly_69 rfl ?_
      refine j_iload (p2 := 69) dM_table_67 rfl rfl ?_
      refine j_iconst (p2 := 70) dM_table_69 rfl ?_
      refine j_iadd (p2 := 71) dM_table_70 rfl ?_
      refine j_dald (p2 := 72) dM_table_71 rfl ly_76 (by decide) (by omega) (by omega) ?_
      refine j_dload_n (p2 := 73) dM_table_72 rfl rfl ?_
      refine j_dcmp_g_gt (p1 := 74) (p2 := 77) (tg := 83) dM_table_73 rfl dM_table_74 rfl (by decide) (fun h73 => ?_) (fun h73 => ?_)
      · refine j_dload_n (p2 := 84) dM_table_83 rfl rfl ?_
        refine j_aload_n (p2 := 85) dM_table_84 rfl rfl ?_
        refine j_getR (p2 := 88) dM_table_85 rfl fa_M_30 ly_69 rfl ?_
        refine j_iload (p2 := 90) dM_table_88 rfl rfl ?_
        refine j_dald (p2 := 91) dM_table_90 rfl ly_76 (by decide) (by omega) (by omega) ?_
        refine j_dsub (p2 := 92) dM_table_91 rfl (by first | assumption | exact d2f_nn (nnx _ (by omega) (by omega)) | exact d2f_nn (nny _ (by omega) (by omega))) ?_
        refine j_aload_n (p2 := 93) dM_table_92 rfl rfl ?_
        refine j_getR (p2 := 96) dM_table_93 rfl fa_M_33 ly_69 rfl ?_
        refine j_iload (p2 := 98) dM_table_96 rfl rfl ?_
        refine j_iconst (p2 := 99) dM_table_98 rfl ?_
        refine j_iadd (p2 := 100) dM_table_99 rfl ?_
        refine j_dald (p2 := 101) dM_table_100 rfl ly_77 (by decide) (by omega) (by omega) ?_
        refine j_aload_n (p2 := 102) dM_table_101 rfl rfl ?_
        refine j_getR (p2 := 105) dM_table_102 rfl fa_M_33 ly_69 rfl ?_
        refine j_iload (p2 := 107) dM_table_105 rfl rfl ?_
        refine j_dald (p2 := 108) dM_table_107 rfl ly_77 (by decide) (by omega) (by omega) ?_
        refine j_dsub (p2 := 109) dM_table_108 rfl (by first | assumption | exact d2f_nn (nnx _ (by omega) (by omega)) | exact d2f_nn (nny _ (by omega) (by omega))) ?_
        refine j_dmul (p2 := 110) dM_table_109 rfl (by first | assumption | exact d2f_nn (nnx _ (by omega) (by omega)) | exact d2f_nn (nny _ (by omega) (by omega))) ?_
        refine j_dstore (p2 := 112) (lv' := [(0, _), (6, _), (7, _)]) dM_table_110 rfl (Nat.le_of_ble_eq_true rfl) ⟨rfl, rfl, rfl, trivial⟩ ?_
        refine j_dload (p2 := 114) dM_table_112 rfl rfl ?_
        refine j_aload_n (p2 := 115) dM_table_114 rfl rfl ?_
        refine j_getR (p2 := 118) dM_table_115 rfl fa_M_30 ly_69 rfl ?_
        refine j_iload (p2 := 120) dM_table_118 rfl rfl ?_
        refine j_iconst (p2 := 121) dM_table_120 rfl ?_
        refine j_iadd (p2 := 122) dM_table_121 rfl ?_
        refine j_dald (p2 := 123) dM_table_122 rfl ly_76 (by decide) (by omega) (by omega) ?_
        refine j_aload_n (p2 := 124) dM_table_123 rfl rfl ?_
        refine j_getR (p2 := 127) dM_table_124 rfl fa_M_30 ly_69 rfl ?_
        refine j_iload (p2 := 129) dM_table_127 rfl rfl ?_
        refine j_dald (p2 := 130) dM_table_129 rfl ly_76 (by decide) (by omega) (by omega) ?_
        refine j_dsub (p2 := 131) dM_table_130 rfl (by first | assumption | exact d2f_nn (nnx _ (by omega) (by omega)) | exact d2f_nn (nny _ (by omega) (by omega))) ?_
        refine j_ddiv (p2 := 132) dM_table_131 rfl (by first | assumption | exact d2f_nn (nnx _ (by omega) (by omega)) | exact d2f_nn (nny _ (by omega) (by omega))) ?_
        refine j_dstore (p2 := 134) (lv' := [(0, _), (6, _), (9, _)]) dM_table_132 rfl (Nat.le_of_ble_eq_true rfl) ⟨rfl, rfl, rfl, trivial⟩ ?_
        refine j_dload (p2 := 136) dM_table_134 rfl rfl ?_
        refine j_aload_n (p2 := 137) dM_table_136 rfl rfl ?_
        refine j_getR (p2 := 140) dM_table_137 rfl fa_M_33 ly_69 rfl ?_
        refine j_iload (p2 := 142) dM_table_140 rfl rfl ?_
        refine j_dald (p2 := 143) dM_table_142 rfl ly_77 (by decide) (by omega) (by omega) ?_
        refine j_dadd (p2 := 144) dM_table_143 rfl (by first | assumption | exact d2f_nn (nnx _ (by omega) (by omega)) | exact d2f_nn (nny _ (by omega) (by omega))) ?_
        refine j_dreturn dM_table_144 rfl (by exact fin (h4.trans (if_neg h73)))
      · refine j_iinc (p2 := 80) (lv' := [(0, _), (2, _), (6, _)]) dM_table_77 rfl (Nat.le_of_ble_eq_true rfl) rfl ⟨rfl, rfl, rfl, trivial⟩ ?_
        refine j_goto (p2 := 63) dM_table_80 (by decide) ?_
        refine J.loc (lv' := [(0, _), (2, _), (6, _)]) ⟨rfl, rfl, rfl, trivial⟩ ?_
        refine ih (k + 1) (by omega) ?_ (by omega) (h4.trans (if_pos h73))
        rcases Int.lt_or_eq_of_le h2 with g | g
        · omega
        · exfalso
          apply c2
          rw [← g]
          rcases h73 with q | q
          · left; exact dcmp_sw q
          · right; exact dcmp_sw q
  refine j_bipush (v := 8) (p2 := 2) dM_table_0 rfl rfl ?_
  refine j_iload_n (p2 := 3) dM_table_2 rfl rfl ?_
  refine j_imul (p2 := 4) dM_table_3 rfl ?_
  refine j_istore (p2 := 6) (lv' := [(0, _), (1, _), (2, _), (4, _)]) dM_table_4 rfl (Nat.le_of_ble_eq_true rfl) ⟨rfl, rfl, rfl, rfl, trivial⟩ ?_
  refine j_iload (p2 := 8) dM_table_6 rfl rfl ?_
  refine j_aload_n (p2 := 9) dM_table_8 rfl rfl ?_
  refine j_getR (p2 := 12) dM_table_9 rfl fa_M_27 ly_69 rfl ?_
  refine j_iload_n (p2 := 13) dM_table_12 rfl rfl ?_
  refine j_iald (p2 := 14) dM_table_13 rfl ly_75 (by decide) (by omega) (by omega) ?_
  refine j_iadd (p2 := 15) dM_table_14 rfl ?_
  refine j_iconst (p2 := 16) dM_table_15 rfl ?_
  refine j_isub (p2 := 17) dM_table_16 rfl ?_
  refine j_istore (p2 := 19) (lv' := [(0, _), (2, _), (4, _), (5, _)]) dM_table_17 rfl (Nat.le_of_ble_eq_true rfl) ⟨rfl, rfl, rfl, rfl, trivial⟩ ?_
  refine j_dload_n (p2 := 20) dM_table_19 rfl rfl ?_
  refine j_aload_n (p2 := 21) dM_table_20 rfl rfl ?_
  refine j_getR (p2 := 24) dM_table_21 rfl fa_M_30 ly_69 rfl ?_
  refine j_iload (p2 := 26) dM_table_24 rfl rfl ?_
  refine j_dald (p2 := 27) dM_table_26 rfl ly_76 (by decide) (by omega) (by omega) ?_
  refine j_dcmp_g_gt (p1 := 28) (p2 := 31) (tg := 39) dM_table_27 rfl dM_table_28 rfl (by decide) (fun h27 => ?_) (fun h27 => ?_)
  · refine j_dload_n (p2 := 40) dM_table_39 rfl rfl ?_
    refine j_aload_n (p2 := 41) dM_table_40 rfl rfl ?_
    refine j_getR (p2 := 44) dM_table_41 rfl fa_M_30 ly_69 rfl ?_
    refine j_iload (p2 := 46) dM_table_44 rfl rfl ?_
    refine j_dald (p2 := 47) dM_table_46 rfl ly_76 (by decide) (by omega) (by omega) ?_
    refine j_dcmp_l_lt (p1 := 48) (p2 := 51) (tg := 59) dM_table_47 rfl dM_table_48 rfl (by decide) (fun h47 => ?_) (fun h47 => ?_)
    · refine j_iload (p2 := 61) dM_table_59 rfl rfl ?_
      refine j_istore (p2 := 63) (lv' := [(0, _), (2, _), (6, _)]) dM_table_61 rfl (Nat.le_of_ble_eq_true rfl) ⟨rfl, rfl, rfl, trivial⟩ ?_
      refine J.loc (lv' := [(0, _), (2, _), (6, _)]) ⟨rfl, rfl, rfl, trivial⟩ ?_
      exact loop h27 h47 8 (8 * m) (by omega) (by omega) (by omega) hKd
    · refine j_aload_n (p2 := 52) dM_table_51 rfl rfl ?_
      refine j_getR (p2 := 55) dM_table_52 rfl fa_M_33 ly_69 rfl ?_
      refine j_iload (p2 := 57) dM_table_55 rfl rfl ?_
      refine j_dald (p2 := 58) dM_table_57 rfl ly_77 (by decide) (by omega) (by omega) ?_
      refine j_dreturn dM_table_58 rfl (by first | (rw [if_pos h27] at hQ; exact hQ ((hys _ (by omega) (by omega)).nn (by decide))) | (rw [if_neg h27, if_pos h47] at hQ; exact hQ ((hys _ (by omega) (by omega)).nn (by decide))))
  · refine j_aload_n (p2 := 32) dM_table_31 rfl rfl ?_
    refine j_getR (p2 := 35) dM_table_32 rfl fa_M_33 ly_69 rfl ?_
    refine j_iload (p2 := 37) dM_table_35 rfl rfl ?_
    refine j_dald (p2 := 38) dM_table_37 rfl ly_77 (by decide) (by omega) (by omega) ?_
    refine j_dreturn dM_table_38 rfl (by first | (rw [if_pos h27] at hQ; exact hQ ((hys _ (by omega) (by omega)).nn (by decide))) | (rw [if_neg h27, if_pos h47] at hQ; exact hQ ((hys _ (by omega) (by omega)).nn (by decide))))
theorem gtab_F (xs ys : Int → UInt32) (np m : Int) (a : UInt32) : gtab arF xs ys np m a = (if FP.fcmp a (xs (8 * m)) = some .lt ∨ FP.fcmp a (xs (8 * m)) = some .eq then ys (8 * m)
  else if FP.fcmp a (xs (8 * m + np - 1)) = some .gt ∨ FP.fcmp a (xs (8 * m + np - 1)) = some .eq then ys (8 * m + np - 1)
  else FP.fadd (FP.fdiv (FP.fmul (FP.fsub a (xs (gfk arF xs a 8 (8 * m)))) (FP.fsub (ys (gfk arF xs a 8 (8 * m) + 1)) (ys (gfk arF xs a 8 (8 * m))))) (FP.fsub (xs (gfk arF xs a 8 (8 * m) + 1)) (xs (gfk arF xs a 8 (8 * m))))) (ys (gfk arF xs a 8 (8 * m)))) := rfl
theorem gfk_F (xs : Int → UInt32) (a : UInt32) (n : Nat) (k : Int) : gfk arF xs a (n + 1) k = if FP.fcmp (xs (k + 1)) a = some .lt ∨ FP.fcmp (xs (k + 1)) a = some .eq then gfk arF xs a n (k + 1) else k := rfl
theorem cM_tableF {m : Int} {a : UInt32} (hm : 0 ≤ m ∧ m < 20) (ha : mf a 129) (hT : TbR (hI σ 75 m) (hD σ 76) (hD σ 77) m) (hQ : vf_n32 (gtab arF (xF (hD σ 76)) (xF (hD σ 77)) (hI σ 75 m) m a) → Q (some (vF (gtab arF (xF (hD σ 76)) (xF (hD σ 77)) (hI σ 75 m) m a))) σ) : Sp mM_tableF [vR 69, vI m, vF a] σ Q := by
  obtain ⟨hn1, hn2, hx, hsrt⟩ := hT
  rw [gtab_F] at hQ
  obtain ⟨K, hKd⟩ : ∃ K, K = gfk arF (xF (hD σ 76)) a 8 (8 * m) := ⟨_, rfl⟩
  rw [← hKd] at hQ
  have hxs : ∀ j : Int, 0 ≤ j → j < 160 → mf (FP.d2f (hD σ 76 (j))) 129 := fun j h0 h1 => d2f_mf (hx j h0 h1).1
  have hys : ∀ j : Int, 0 ≤ j → j < 160 → mf (FP.d2f (hD σ 77 (j))) 129 := fun j h0 h1 => d2f_mf (hx j h0 h1).2
  have nnx : ∀ j : Int, 0 ≤ j → j < 160 → vf_n64 (hD σ 76 j) := fun j h0 h1 => ((hx j h0 h1).1).nn (by decide)
  have nny : ∀ j : Int, 0 ≤ j → j < 160 → vf_n64 (hD σ 77 j) := fun j h0 h1 => ((hx j h0 h1).2).nn (by decide)
  have loop : (¬ (FP.fcmp a (FP.d2f (hD σ 76 (8 * m))) = some .lt ∨ FP.fcmp a (FP.d2f (hD σ 76 (8 * m))) = some .eq)) → (¬ (FP.fcmp a (FP.d2f (hD σ 76 (8 * m + hI σ 75 m - 1))) = some .gt ∨ FP.fcmp a (FP.d2f (hD σ 76 (8 * m + hI σ 75 m - 1))) = some .eq)) →
      ∀ (n : Nat) (k : Int), 8 * m ≤ k → k + 1 ≤ 8 * m + hI σ 75 m - 1 → 8 * m + hI σ 75 m - 1 - k ≤ n → K = gfk arF (xF (hD σ 76)) a n k → J mM_tableF 62 [(0, vR 69), (2, vF a), (5, vI k)] [] σ Q := by
    intro c1 c2 n
    rw [if_neg c1, if_neg c2] at hQ
    induction n with
    | zero => intro k h1 h2 h3; exact absurd h3 (by omega)
    | succ n ih =>
      intro k h1 h2 h3 h4
      rw [gfk_F] at h4
      have hst : FP.fcmp (FP.d2f (hD σ 76 (k))) (FP.d2f (hD σ 76 (k + 1))) = some .lt := by
        have := (hsrt (k - 8 * m) (by omega) (by omega)).2
        have e1 : 8 * m + (k - 8 * m) = k := by omega
        rw [e1] at this; exact this
      have wz : ¬ FP.fcmp (FP.fsub (FP.d2f (hD σ 76 (k + 1))) (FP.d2f (hD σ 76 (k)))) FP.fconst0 = some .eq := by
        rw [fsub_pos ((hxs k (by omega) (by omega)).fin (by decide)) ((hxs (k + 1) (by omega) (by omega)).fin (by decide)) hst]
        exact fun q => by cases q
      have s1 := mf_sub ha (hxs k (by omega) (by omega)) (by decide)
      have s2 := mf_sub (hys (k + 1) (by omega) (by omega)) (hys k (by omega) (by omega)) (by decide)
      have s3 := mf_sub (hxs (k + 1) (by omega) (by omega)) (hxs k (by omega) (by omega)) (by decide)
      have o1 := s1.nn (by decide)
      have o2 := s2.nn (by decide)
      have o3 := s3.nn (by decide)
      have o4 := nnf_mul (s1.fin (by decide)) (s2.fin (by decide))
      have o5 := nnf_div2 o4 (s3.fin (by decide)) wz
      have o6 := nnf_add o5 ((hys k (by omega) (by omega)).fin (by decide))
      have fin : K = k → Q (some (vF (FP.fadd (FP.fdiv (FP.fmul (FP.fsub a (FP.d2f (hD σ 76 (k)))) (FP.fsub (FP.d2f (hD σ 77 (k + 1))) (FP.d2f (hD σ 77 (k))))) (FP.fsub (FP.d2f (hD σ 76 (k + 1))) (FP.d2f (hD σ 76 (k))))) (FP.d2f (hD σ 77 (k)))))) σ := fun hk => by
        rw [hk] at hQ; exact hQ o6
      refine j_aload_n (p2 := 63) dM_tableF_62 rfl rfl ?_
      refine j_getR (p2 := 66) dM_tableF_63 rfl fa_M_30 ly_69 rfl ?_
      refine j_iload (p2 := 68) dM_tableF_66 rfl rfl ?_
      refine j_iconst (p2 := 69) dM_tableF_68 rfl ?_
      refine j_iadd (p2 := 70) dM_tableF_69 rfl ?_
      refine j_dald (p2 := 71) dM_tableF_70 rfl ly_76 (by decide) (by omega) (by omega) ?_
      refine j_d2f (p2 := 72) dM_tableF_71 rfl (by first | assumption | exact d2f_nn (nnx _ (by omega) (by omega)) | exact d2f_nn (nny _ (by omega) (by omega))) ?_
      refine j_fload_n (p2 := 73) dM_tableF_72 rfl rfl ?_
      refine j_fcmp_g_gt (p1 := 74) (p2 := 77) (tg := 83) dM_tableF_73 rfl dM_tableF_74 rfl (by decide) (fun h73 => ?_) (fun h73 => ?_)
      · refine j_aload_n (p2 := 84) dM_tableF_83 rfl rfl ?_
        refine j_getR (p2 := 87) dM_tableF_84 rfl fa_M_30 ly_69 rfl ?_
        refine j_iload (p2 := 89) dM_tableF_87 rfl rfl ?_
        refine j_dald (p2 := 90) dM_tableF_89 rfl ly_76 (by decide) (by omega) (by omega) ?_
        refine j_d2f (p2 := 91) dM_tableF_90 rfl (by first | assumption | exact d2f_nn (nnx _ (by omega) (by omega)) | exact d2f_nn (nny _ (by omega) (by omega))) ?_
        refine j_fstore (p2 := 93) (lv' := [(0, _), (2, _), (5, _), (6, _)]) dM_tableF_91 rfl (Nat.le_of_ble_eq_true rfl) ⟨rfl, rfl, rfl, rfl, trivial⟩ ?_
        refine j_aload_n (p2 := 94) dM_tableF_93 rfl rfl ?_
        refine j_getR (p2 := 97) dM_tableF_94 rfl fa_M_33 ly_69 rfl ?_
        refine j_iload (p2 := 99) dM_tableF_97 rfl rfl ?_
        refine j_dald (p2 := 100) dM_tableF_99 rfl ly_77 (by decide) (by omega) (by omega) ?_
        refine j_d2f (p2 := 101) dM_tableF_100 rfl (by first | assumption | exact d2f_nn (nnx _ (by omega) (by omega)) | exact d2f_nn (nny _ (by omega) (by omega))) ?_
        refine j_fstore (p2 := 103) (lv' := [(0, _), (2, _), (5, _), (6, _), (7, _)]) dM_tableF_101 rfl (Nat.le_of_ble_eq_true rfl) ⟨rfl, rfl, rfl, rfl, rfl, trivial⟩ ?_
        refine j_fload_n (p2 := 104) dM_tableF_103 rfl rfl ?_
        refine j_fload (p2 := 106) dM_tableF_104 rfl rfl ?_
        refine j_fsub (p2 := 107) dM_tableF_106 rfl (by first | assumption | exact d2f_nn (nnx _ (by omega) (by omega)) | exact d2f_nn (nny _ (by omega) (by omega))) ?_
        refine j_aload_n (p2 := 108) dM_tableF_107 rfl rfl ?_
        refine j_getR (p2 := 111) dM_tableF_108 rfl fa_M_33 ly_69 rfl ?_
        refine j_iload (p2 := 113) dM_tableF_111 rfl rfl ?_
        refine j_iconst (p2 := 114) dM_tableF_113 rfl ?_
        refine j_iadd (p2 := 115) dM_tableF_114 rfl ?_
        refine j_dald (p2 := 116) dM_tableF_115 rfl ly_77 (by decide) (by omega) (by omega) ?_
        refine j_d2f (p2 := 117) dM_tableF_116 rfl (by first | assumption | exact d2f_nn (nnx _ (by omega) (by omega)) | exact d2f_nn (nny _ (by omega) (by omega))) ?_
        refine j_fload (p2 := 119) dM_tableF_117 rfl rfl ?_
        refine j_fsub (p2 := 120) dM_tableF_119 rfl (by first | assumption | exact d2f_nn (nnx _ (by omega) (by omega)) | exact d2f_nn (nny _ (by omega) (by omega))) ?_
        refine j_fmul (p2 := 121) dM_tableF_120 rfl (by first | assumption | exact d2f_nn (nnx _ (by omega) (by omega)) | exact d2f_nn (nny _ (by omega) (by omega))) ?_
        refine j_fstore (p2 := 123) (lv' := [(0, _), (5, _), (6, _), (7, _), (8, _)]) dM_tableF_121 rfl (Nat.le_of_ble_eq_true rfl) ⟨rfl, rfl, rfl, rfl, rfl, trivial⟩ ?_
        refine j_fload (p2 := 125) dM_tableF_123 rfl rfl ?_
        refine j_aload_n (p2 := 126) dM_tableF_125 rfl rfl ?_
        refine j_getR (p2 := 129) dM_tableF_126 rfl fa_M_30 ly_69 rfl ?_
        refine j_iload (p2 := 131) dM_tableF_129 rfl rfl ?_
        refine j_iconst (p2 := 132) dM_tableF_131 rfl ?_
        refine j_iadd (p2 := 133) dM_tableF_132 rfl ?_
        refine j_dald (p2 := 134) dM_tableF_133 rfl ly_76 (by decide) (by omega) (by omega) ?_
        refine j_d2f (p2 := 135) dM_tableF_134 rfl (by first | assumption | exact d2f_nn (nnx _ (by omega) (by omega)) | exact d2f_nn (nny _ (by omega) (by omega))) ?_
        refine j_fload (p2 := 137) dM_tableF_135 rfl rfl ?_
        refine j_fsub (p2 := 138) dM_tableF_137 rfl (by first | assumption | exact d2f_nn (nnx _ (by omega) (by omega)) | exact d2f_nn (nny _ (by omega) (by omega))) ?_
        refine j_fdiv (p2 := 139) dM_tableF_138 rfl (by first | assumption | exact d2f_nn (nnx _ (by omega) (by omega)) | exact d2f_nn (nny _ (by omega) (by omega))) ?_
        refine j_fstore (p2 := 141) (lv' := [(7, _), (9, _)]) dM_tableF_139 rfl (Nat.le_of_ble_eq_true rfl) ⟨rfl, rfl, trivial⟩ ?_
        refine j_fload (p2 := 143) dM_tableF_141 rfl rfl ?_
        refine j_fload (p2 := 145) dM_tableF_143 rfl rfl ?_
        refine j_fadd (p2 := 146) dM_tableF_145 rfl (by first | assumption | exact d2f_nn (nnx _ (by omega) (by omega)) | exact d2f_nn (nny _ (by omega) (by omega))) ?_
        refine j_freturn dM_tableF_146 rfl (by exact fin (h4.trans (if_neg h73)))
      · refine j_iinc (p2 := 80) (lv' := [(0, _), (2, _), (5, _)]) dM_tableF_77 rfl (Nat.le_of_ble_eq_true rfl) rfl ⟨rfl, rfl, rfl, trivial⟩ ?_
        refine j_goto (p2 := 62) dM_tableF_80 (by decide) ?_
        refine J.loc (lv' := [(0, _), (2, _), (5, _)]) ⟨rfl, rfl, rfl, trivial⟩ ?_
        refine ih (k + 1) (by omega) ?_ (by omega) (h4.trans (if_pos h73))
        rcases Int.lt_or_eq_of_le h2 with g | g
        · omega
        · exfalso
          apply c2
          rw [← g]
          rcases h73 with q | q
          · left; exact fcmp_sw q
          · right; exact fcmp_sw q
  refine j_bipush (v := 8) (p2 := 2) dM_tableF_0 rfl rfl ?_
  refine j_iload_n (p2 := 3) dM_tableF_2 rfl rfl ?_
  refine j_imul (p2 := 4) dM_tableF_3 rfl ?_
  refine j_istore_n (p2 := 5) (lv' := [(0, _), (1, _), (2, _), (3, _)]) dM_tableF_4 rfl (Nat.le_of_ble_eq_true rfl) ⟨rfl, rfl, rfl, rfl, trivial⟩ ?_
  refine j_iload_n (p2 := 6) dM_tableF_5 rfl rfl ?_
  refine j_aload_n (p2 := 7) dM_tableF_6 rfl rfl ?_
  refine j_getR (p2 := 10) dM_tableF_7 rfl fa_M_27 ly_69 rfl ?_
  refine j_iload_n (p2 := 11) dM_tableF_10 rfl rfl ?_
  refine j_iald (p2 := 12) dM_tableF_11 rfl ly_75 (by decide) (by omega) (by omega) ?_
  refine j_iadd (p2 := 13) dM_tableF_12 rfl ?_
  refine j_iconst (p2 := 14) dM_tableF_13 rfl ?_
  refine j_isub (p2 := 15) dM_tableF_14 rfl ?_
  refine j_istore (p2 := 17) (lv' := [(0, _), (2, _), (3, _), (4, _)]) dM_tableF_15 rfl (Nat.le_of_ble_eq_true rfl) ⟨rfl, rfl, rfl, rfl, trivial⟩ ?_
  refine j_fload_n (p2 := 18) dM_tableF_17 rfl rfl ?_
  refine j_aload_n (p2 := 19) dM_tableF_18 rfl rfl ?_
  refine j_getR (p2 := 22) dM_tableF_19 rfl fa_M_30 ly_69 rfl ?_
  refine j_iload_n (p2 := 23) dM_tableF_22 rfl rfl ?_
  refine j_dald (p2 := 24) dM_tableF_23 rfl ly_76 (by decide) (by omega) (by omega) ?_
  refine j_d2f (p2 := 25) dM_tableF_24 rfl (by first | assumption | exact d2f_nn (nnx _ (by omega) (by omega)) | exact d2f_nn (nny _ (by omega) (by omega))) ?_
  refine j_fcmp_g_gt (p1 := 26) (p2 := 29) (tg := 37) dM_tableF_25 rfl dM_tableF_26 rfl (by decide) (fun h25 => ?_) (fun h25 => ?_)
  · refine j_fload_n (p2 := 38) dM_tableF_37 rfl rfl ?_
    refine j_aload_n (p2 := 39) dM_tableF_38 rfl rfl ?_
    refine j_getR (p2 := 42) dM_tableF_39 rfl fa_M_30 ly_69 rfl ?_
    refine j_iload (p2 := 44) dM_tableF_42 rfl rfl ?_
    refine j_dald (p2 := 45) dM_tableF_44 rfl ly_76 (by decide) (by omega) (by omega) ?_
    refine j_d2f (p2 := 46) dM_tableF_45 rfl (by first | assumption | exact d2f_nn (nnx _ (by omega) (by omega)) | exact d2f_nn (nny _ (by omega) (by omega))) ?_
    refine j_fcmp_l_lt (p1 := 47) (p2 := 50) (tg := 59) dM_tableF_46 rfl dM_tableF_47 rfl (by decide) (fun h46 => ?_) (fun h46 => ?_)
    · refine j_iload_n (p2 := 60) dM_tableF_59 rfl rfl ?_
      refine j_istore (p2 := 62) (lv' := [(0, _), (2, _), (5, _)]) dM_tableF_60 rfl (Nat.le_of_ble_eq_true rfl) ⟨rfl, rfl, rfl, trivial⟩ ?_
      refine J.loc (lv' := [(0, _), (2, _), (5, _)]) ⟨rfl, rfl, rfl, trivial⟩ ?_
      exact loop h25 h46 8 (8 * m) (by omega) (by omega) (by omega) hKd
    · refine j_aload_n (p2 := 51) dM_tableF_50 rfl rfl ?_
      refine j_getR (p2 := 54) dM_tableF_51 rfl fa_M_33 ly_69 rfl ?_
      refine j_iload (p2 := 56) dM_tableF_54 rfl rfl ?_
      refine j_dald (p2 := 57) dM_tableF_56 rfl ly_77 (by decide) (by omega) (by omega) ?_
      refine j_d2f (p2 := 58) dM_tableF_57 rfl (by first | assumption | exact d2f_nn (nnx _ (by omega) (by omega)) | exact d2f_nn (nny _ (by omega) (by omega))) ?_
      refine j_freturn dM_tableF_58 rfl (by first | (rw [if_pos h25] at hQ; exact hQ ((hys _ (by omega) (by omega)).nn (by decide))) | (rw [if_neg h25, if_pos h46] at hQ; exact hQ ((hys _ (by omega) (by omega)).nn (by decide))))
  · refine j_aload_n (p2 := 30) dM_tableF_29 rfl rfl ?_
    refine j_getR (p2 := 33) dM_tableF_30 rfl fa_M_33 ly_69 rfl ?_
    refine j_iload_n (p2 := 34) dM_tableF_33 rfl rfl ?_
    refine j_dald (p2 := 35) dM_tableF_34 rfl ly_77 (by decide) (by omega) (by omega) ?_
    refine j_d2f (p2 := 36) dM_tableF_35 rfl (by first | assumption | exact d2f_nn (nnx _ (by omega) (by omega)) | exact d2f_nn (nny _ (by omega) (by omega))) ?_
    refine j_freturn dM_tableF_36 rfl (by first | (rw [if_pos h25] at hQ; exact hQ ((hys _ (by omega) (by omega)).nn (by decide))) | (rw [if_neg h25, if_pos h46] at hQ; exact hQ ((hys _ (by omega) (by omega)).nn (by decide))))
end REF4
