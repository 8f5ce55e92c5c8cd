/-! ===== the reference: point ===== -/
theorem isSml_num {x : Int64} (h : isSml x = true) : isNum x := by
  unfold isSml at h
  rw [Bool.and_eq_true] at h
  exact of_decide_eq_true h.1
section REF26
variable {σ : Hp} {Q : Option PV → Hp → Prop} {N : Nat}
/-- the point lies behind the last one, in both twins -/
abbrev ptOk (σ : Hp) (m : Int) (v : UInt64) : Prop := 0 < hI σ 75 m → FP.dcmp v (hD σ 76 (8 * m + hI σ 75 m - 1)) = some .gt ∧ FP.fcmp (FP.d2f v) (FP.d2f (hD σ 76 (8 * m + hI σ 75 m - 1))) = some .gt
abbrev ptC (σ : Hp) (m : Int) (x y : Int64) : Prop := hI σ 70 m = 7 ∧ isSml x = true ∧ isSml y = true
theorem cM_point {m : Int} {x y : Int64} (hs : Sc σ) (hm : inR m) (hk : isM σ m → inR (hI σ 70 m) ∧ 0 ≤ hI σ 75 m ∧ hI σ 75 m ≤ 8) (hx : ∀ k : Int, 0 ≤ k → k < 160 → vf_n64 (hD σ 76 k)) (h1 : ¬ isM σ m → Q (some (vI (-101))) σ) (h2 : isM σ m → ¬ ptC σ m x y → Q (some (vI (-102))) σ) (h3 : isM σ m → ptC σ m x y → ¬ ptOk σ m x.toUInt64 → Q (some (vI (-102))) σ)
    (h4 : isM σ m → ptC σ m x y → ptOk σ m x.toUInt64 → ¬ hI σ 69 11 = 0 → Q (some (vI (-103))) σ) (h5 : isM σ m → ptC σ m x y → ptOk σ m x.toUInt64 → hI σ 69 11 = 0 → hI σ 75 m = 8 → Q (some (vI (-104))) σ)
    (h6 : isM σ m → ptC σ m x y → ptOk σ m x.toUInt64 → hI σ 69 11 = 0 → hI σ 75 m < 8 → Q (some (vI (hI σ 75 m + 1))) (wI (wD (wD σ 76 (fup (hD σ 76) (8 * m + hI σ 75 m - 1 + 1) x.toUInt64)) 77 (fup (hD σ 77) (8 * m + hI σ 75 m - 1 + 1) y.toUInt64)) 75 (fup (hI σ 75) m (hI σ 75 m + 1)))) : Sp mM_point [vR 69, vI m, vL x, vL y] σ Q := by
  obtain ⟨s1, s2, s3, s4⟩ := hs
  have at101 : isM σ m → ptC σ m x y → ptOk σ m x.toUInt64 → J mM_point 101 [(0, vR 69), (1, vI m), (4, vL y), (6, vD x.toUInt64), (8, vI (8 * m + hI σ 75 m - 1))] [] σ Q := by
    intro a b c
    obtain ⟨k1, k2, k3⟩ := hk a
    have e : hI (wI (wD (wD σ 76 (fup (hD σ 76) (8 * m + hI σ 75 m - 1 + 1) x.toUInt64)) 77 (fup (hD σ 77) (8 * m + hI σ 75 m - 1 + 1) y.toUInt64)) 75 (fup (hI σ 75) m (hI σ 75 m + 1))) 75 m = hI σ 75 m + 1 := fup_s _ _ _
    refine j_aload_n (p2 := 102) dM_point_101 rfl rfl ?_
    refine j_getIk (p2 := 105) dM_point_102 rfl fa_M_195 ly_69 rfl (ki := 11) rfl ?_
    refine j_if_eq (p2 := 108) (tg := 111) dM_point_105 rfl (by decide) (by constructor <;> omega) (fun h105 => ?_) (fun h105 => ?_)
    · refine j_aload_n (p2 := 112) dM_point_111 rfl rfl ?_
      refine j_getR (p2 := 115) dM_point_112 rfl fa_M_27 ly_69 rfl ?_
      refine j_iload_n (p2 := 116) dM_point_115 rfl rfl ?_
      refine j_iald (p2 := 117) dM_point_116 rfl ly_75 (by decide) (by omega) (by omega) ?_
      refine j_bipush (v := 8) (p2 := 119) dM_point_117 rfl rfl ?_
      refine j_icmp_ne (p2 := 122) (tg := 125) dM_point_119 rfl (by decide) (by constructor <;> omega) (by constructor <;> omega) (fun h119 => ?_) (fun h119 => ?_)
      · refine j_aload_n (p2 := 126) dM_point_125 rfl rfl ?_
        refine j_getR (p2 := 129) dM_point_126 rfl fa_M_30 ly_69 rfl ?_
        refine j_iload (p2 := 131) dM_point_129 rfl rfl ?_
        refine j_iconst (p2 := 132) dM_point_131 rfl ?_
        refine j_iadd (p2 := 133) dM_point_132 rfl ?_
        refine j_dload (p2 := 135) dM_point_133 rfl rfl ?_
        refine j_dastk (p2 := 136) dM_point_135 rfl ly_76 (by decide) (by omega) (by omega) ?_
        refine j_aload_n (p2 := 137) dM_point_136 rfl rfl ?_
        refine j_getR (p2 := 140) dM_point_137 rfl fa_M_33 ly_69 rfl ?_
        refine j_iload (p2 := 142) dM_point_140 rfl rfl ?_
        refine j_iconst (p2 := 143) dM_point_142 rfl ?_
        refine j_iadd (p2 := 144) dM_point_143 rfl ?_
        refine j_lload (p2 := 146) dM_point_144 rfl rfl ?_
        refine j_ofBits (p2 := 149) dM_point_146 rfl ml_M_185 (Nat.le_of_ble_eq_true rfl) (Nat.le_of_ble_eq_true rfl) (by exact isNum_sn (isSml_num b.2.2)) ?_
        refine j_dastk (p2 := 150) dM_point_149 rfl ly_77 (by decide) (by omega) (by omega) ?_
        refine j_aload_n (p2 := 151) dM_point_150 rfl rfl ?_
        refine j_getR (p2 := 154) dM_point_151 rfl fa_M_27 ly_69 rfl ?_
        refine j_iload_n (p2 := 155) dM_point_154 rfl rfl ?_
        refine j_dup2 (p2 := 156) dM_point_155 rfl rfl rfl ?_
        refine j_iald (p2 := 157) dM_point_156 rfl ly_75 (by decide) (by omega) (by omega) ?_
        refine j_iconst (p2 := 158) dM_point_157 rfl ?_
        refine j_iadd (p2 := 159) dM_point_158 rfl ?_
        refine j_iastk (p2 := 160) dM_point_159 rfl ly_75 (by decide) (by omega) (by omega) ?_
        refine j_aload_n (p2 := 161) dM_point_160 rfl rfl ?_
        refine j_getR (p2 := 164) dM_point_161 rfl fa_M_27 ly_69 rfl ?_
        refine j_iload_n (p2 := 165) dM_point_164 rfl rfl ?_
        refine j_iald (p2 := 166) dM_point_165 rfl ly_75 (by decide) (by omega) (by omega) ?_
        refine j_ireturn dM_point_166 rfl (by exact Q_of (h6 a b c h105 (by omega)) (congrArg (fun z => some (vI z)) e.symm) rfl)
      · refine j_bipush (v := (-104)) (p2 := 124) dM_point_122 rfl rfl ?_
        refine j_ireturn dM_point_124 rfl (by exact h5 a b c h105 h119)
    · refine j_bipush (v := (-103)) (p2 := 110) dM_point_108 rfl rfl ?_
      refine j_ireturn dM_point_110 rfl (by exact h4 a b c h105)
  have at40 : isM σ m → ptC σ m x y → J mM_point 40 [(0, vR 69), (1, vI m), (2, vL x), (4, vL y)] [] σ Q := by
    intro a b
    obtain ⟨k1, k2, k3⟩ := hk a
    have n1 := isNum_nn (isSml_num b.2.1)
    refine j_lload_n (p2 := 41) dM_point_40 rfl rfl ?_
    refine j_ofBits (p2 := 44) dM_point_41 rfl ml_M_185 (Nat.le_of_ble_eq_true rfl) (Nat.le_of_ble_eq_true rfl) (isNum_sn (isSml_num b.2.1)) ?_
    refine j_dstore (p2 := 46) (lv' := [(0, _), (1, _), (4, _), (6, _)]) dM_point_44 rfl (Nat.le_of_ble_eq_true rfl) ⟨rfl, rfl, rfl, rfl, trivial⟩ ?_
    refine j_bipush (v := 8) (p2 := 48) dM_point_46 rfl rfl ?_
    refine j_iload_n (p2 := 49) dM_point_48 rfl rfl ?_
    refine j_imul (p2 := 50) dM_point_49 rfl ?_
    refine j_aload_n (p2 := 51) dM_point_50 rfl rfl ?_
    refine j_getR (p2 := 54) dM_point_51 rfl fa_M_27 ly_69 rfl ?_
    refine j_iload_n (p2 := 55) dM_point_54 rfl rfl ?_
    refine j_iald (p2 := 56) dM_point_55 rfl ly_75 (by decide) (by omega) (by omega) ?_
    refine j_iadd (p2 := 57) dM_point_56 rfl ?_
    refine j_iconst (p2 := 58) dM_point_57 rfl ?_
    refine j_isub (p2 := 59) dM_point_58 rfl ?_
    refine j_istore (p2 := 61) (lv' := [(0, _), (1, _), (4, _), (6, _), (8, _)]) dM_point_59 rfl (Nat.le_of_ble_eq_true rfl) ⟨rfl, rfl, rfl, rfl, rfl, trivial⟩ ?_
    refine j_aload_n (p2 := 62) dM_point_61 rfl rfl ?_
    refine j_getR (p2 := 65) dM_point_62 rfl fa_M_27 ly_69 rfl ?_
    refine j_iload_n (p2 := 66) dM_point_65 rfl rfl ?_
    refine j_iald (p2 := 67) dM_point_66 rfl ly_75 (by decide) (by omega) (by omega) ?_
    refine j_if_le (p2 := 70) (tg := 101) dM_point_67 rfl (by decide) (by constructor <;> omega) (fun h67 => ?_) (fun h67 => ?_)
    · refine J.loc (lv' := [(0, _), (1, _), (4, _), (6, _), (8, _)]) ⟨rfl, rfl, rfl, rfl, rfl, trivial⟩ ?_
      first
        | exact at101 a b (fun q => absurd q (by omega))
        | exact at101 a b (fun _ => ⟨h79, h94⟩)
    · refine j_dload (p2 := 72) dM_point_70 rfl rfl ?_
      refine j_aload_n (p2 := 73) dM_point_72 rfl rfl ?_
      refine j_getR (p2 := 76) dM_point_73 rfl fa_M_30 ly_69 rfl ?_
      refine j_iload (p2 := 78) dM_point_76 rfl rfl ?_
      refine j_dald (p2 := 79) dM_point_78 rfl ly_76 (by decide) (by omega) (by omega) ?_
      refine j_dcmp_l_le (p1 := 80) (p2 := 83) (tg := 98) dM_point_79 rfl dM_point_80 rfl (by decide) (fun h79 => ?_) (fun h79 => ?_)
      · refine j_bipush (v := (-102)) (p2 := 100) dM_point_98 rfl rfl ?_
        refine j_ireturn dM_point_100 rfl (by first | exact h3 a b (fun q => h79 (q (by omega)).1) | exact h3 a b (fun q => h94 (q (by omega)).2))
      · refine j_dload (p2 := 85) dM_point_83 rfl rfl ?_
        refine j_d2f (p2 := 86) dM_point_85 rfl (d2f_nn n1) ?_
        refine j_aload_n (p2 := 87) dM_point_86 rfl rfl ?_
        refine j_getR (p2 := 90) dM_point_87 rfl fa_M_30 ly_69 rfl ?_
        refine j_iload (p2 := 92) dM_point_90 rfl rfl ?_
        refine j_dald (p2 := 93) dM_point_92 rfl ly_76 (by decide) (by omega) (by omega) ?_
        refine j_d2f (p2 := 94) dM_point_93 rfl (d2f_nn (hx _ (by omega) (by omega))) ?_
        refine j_fcmp_l_gt (p1 := 95) (p2 := 98) (tg := 101) dM_point_94 rfl dM_point_95 rfl (by decide) (fun h94 => ?_) (fun h94 => ?_)
        · refine J.loc (lv' := [(0, _), (1, _), (4, _), (6, _), (8, _)]) ⟨rfl, rfl, rfl, rfl, rfl, trivial⟩ ?_
          first
            | exact at101 a b (fun q => absurd q (by omega))
            | exact at101 a b (fun _ => ⟨h79, h94⟩)
        · refine j_bipush (v := (-102)) (p2 := 100) dM_point_98 rfl rfl ?_
          refine j_ireturn dM_point_100 rfl (by first | exact h3 a b (fun q => h79 (q (by omega)).1) | exact h3 a b (fun q => h94 (q (by omega)).2))
  refine j_aload_n (p2 := 1) dM_point_0 rfl rfl ?_
  refine j_iload_n (p2 := 2) dM_point_1 rfl rfl ?_
  refine j_callV (m' := mM_isModule) (As := [_]) (p2 := 5) dM_point_2 rfl ml_M_198 ok_mM_isModule im_mM_isModule se_mM_isModule rfl rfl (Nat.le_of_ble_eq_true rfl) ly_69 rfl (Nat.le_of_ble_eq_true rfl) ⟨(Nat.le_of_ble_eq_true rfl), (Nat.le_of_ble_eq_true rfl)⟩ ?_
  refine cM_isModule hm s1 ?_
  refine j_ifb_ne (p2 := 8) (tg := 11) dM_point_5 rfl (by decide) (fun h5 => ?_) (fun h5 => ?_)
  · refine j_aload_n (p2 := 12) dM_point_11 rfl rfl ?_
    refine j_getR (p2 := 15) dM_point_12 rfl fa_M_7 ly_69 rfl ?_
    refine j_iload_n (p2 := 16) dM_point_15 rfl rfl ?_
    refine j_iald (p2 := 17) dM_point_16 rfl ly_70 (by decide) (by have := dec_t h5; omega) (by have := dec_t h5; omega) ?_
    refine j_bipush (v := 7) (p2 := 19) dM_point_17 rfl rfl ?_
    refine j_icmp_ne (p2 := 22) (tg := 37) dM_point_19 rfl (by decide) (by exact (hk (dec_t h5)).1) (by constructor <;> omega) (fun h19 => ?_) (fun h19 => ?_)
    · refine j_bipush (v := (-102)) (p2 := 39) dM_point_37 rfl rfl ?_
      refine j_ireturn dM_point_39 rfl (by first | exact h2 (dec_t h5) (fun q => h19 q.1) | exact h2 (dec_t h5) (fun q => absurd (q.2.1.symm.trans h26 : true = false) (by decide)) | exact h2 (dec_t h5) (fun q => absurd (q.2.2.symm.trans h34 : true = false) (by decide)))
    · refine j_lload_n (p2 := 23) dM_point_22 rfl rfl ?_
      refine j_callS (m' := mM_isSmall) (As := [_]) (p2 := 26) dM_point_23 rfl ml_M_204 ok_mM_isSmall sm_mM_isSmall rfl rfl (Nat.le_of_ble_eq_true rfl) (Nat.le_of_ble_eq_true rfl) ⟨(Nat.le_of_ble_eq_true rfl), (Nat.le_of_ble_eq_true rfl)⟩ ?_
      refine cM_isSmall ?_
      refine j_ifb_eq (p2 := 29) (tg := 37) dM_point_26 rfl (by decide) (fun h26 => ?_) (fun h26 => ?_)
      · refine j_bipush (v := (-102)) (p2 := 39) dM_point_37 rfl rfl ?_
        refine j_ireturn dM_point_39 rfl (by first | exact h2 (dec_t h5) (fun q => h19 q.1) | exact h2 (dec_t h5) (fun q => absurd (q.2.1.symm.trans h26 : true = false) (by decide)) | exact h2 (dec_t h5) (fun q => absurd (q.2.2.symm.trans h34 : true = false) (by decide)))
      · refine j_lload (p2 := 31) dM_point_29 rfl rfl ?_
        refine j_callS (m' := mM_isSmall) (As := [_]) (p2 := 34) dM_point_31 rfl ml_M_204 ok_mM_isSmall sm_mM_isSmall rfl rfl (Nat.le_of_ble_eq_true rfl) (Nat.le_of_ble_eq_true rfl) ⟨(Nat.le_of_ble_eq_true rfl), (Nat.le_of_ble_eq_true rfl)⟩ ?_
        refine cM_isSmall ?_
        refine j_ifb_ne (p2 := 37) (tg := 40) dM_point_34 rfl (by decide) (fun h34 => ?_) (fun h34 => ?_)
        · refine J.loc (lv' := [(0, _), (1, _), (2, _), (4, _)]) ⟨rfl, rfl, rfl, rfl, trivial⟩ ?_
          exact at40 (dec_t h5) ⟨h19, h26, h34⟩
        · refine j_bipush (v := (-102)) (p2 := 39) dM_point_37 rfl rfl ?_
          refine j_ireturn dM_point_39 rfl (by first | exact h2 (dec_t h5) (fun q => h19 q.1) | exact h2 (dec_t h5) (fun q => absurd (q.2.1.symm.trans h26 : true = false) (by decide)) | exact h2 (dec_t h5) (fun q => absurd (q.2.2.symm.trans h34 : true = false) (by decide)))
  · refine j_bipush (v := (-101)) (p2 := 10) dM_point_8 rfl rfl ?_
    refine j_ireturn dM_point_10 rfl (by exact h1 (of_decide_eq_false h5))
end REF26
