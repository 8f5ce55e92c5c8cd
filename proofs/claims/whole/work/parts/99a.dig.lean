/-! ===== the panel: digest, halved ===== -/
def i6L (x : Int) : Int64 := (iw x).toInt64
/-- the first n inputs of module m, into h -/
def wIn (fr tu : Int → Int) (m : Int) (h : Int64) : Nat → Int64
  | 0 => h
  | i + 1 => 31 * (31 * wIn fr tu m h i + i6L (fr (6 * m + i))) + (if tu (6 * m + i) = 0 then 0 else 1)
/-- module m into h: kinds, bits of settings, cords, bits at the start; and what is read -/
def wMo (kd : Int → Int) (sb : Int → Int64) (fr tu : Int → Int) (bb : Int → Int64) (on : Bool) (rd : Int → UInt64) (rf : Int → UInt32) (lm : Int → Int) (h : Int64) (m : Int) : Int64 :=
  if on = true then 31 * (31 * (31 * (31 * wIn fr tu m (31 * (31 * h + i6L (kd m)) + sb m) 6 + bb m) + (rd m).toInt64) + i6L ((rf m).toInt32.toInt)) + i6L (lm m)
  else 31 * wIn fr tu m (31 * (31 * h + i6L (kd m)) + sb m) 6 + bb m
section DIG
variable {σ : Hp} {Q : Option PV → Hp → Prop} {N S : Nat}
theorem cX_withModule {fr : Int → Int} {rD : Int → UInt64} {rF : Int → UInt32} {h : Int64} {m : Int} (hc : CtI σ fr N) (hm : 0 ≤ m ∧ m < N) (hmo : inR (hI σ 0 9)) (hd : ¬ hI σ 0 9 = 0 → Rdd σ rD N ∧ Rdf σ rF N ∧ (∀ k : Int, 0 ≤ k → k < N → rD k ≠ 9223372036854775808 ∧ rF k ≠ 2147483648)) (hQ : Q (some (vL (wMo (hI σ 4) (hL σ 5) fr (hI σ 10) (hL σ 7) (decide (¬ hI σ 0 9 = 0)) rD rF (hI σ 20) h m))) σ) : Sp mX_withModule [vR 0, vL h, vI m] σ Q := by
  have hN2 := hc.2.1
  obtain ⟨h0, hh0⟩ : ∃ h0, h0 = 31 * (31 * h + i6L (hI σ 4 m)) + hL σ 5 m := ⟨_, rfl⟩
  unfold wMo at hQ
  rw [← hh0] at hQ
  have at90 : J mX_withModule 90 [(0, vR 0), (3, vI m), (4, vL (wIn fr (hI σ 10) m h0 6))] [] σ Q := by
    generalize wIn fr (hI σ 10) m h0 6 = g at *
    have at116 : ¬ hI σ 0 9 = 0 → J mX_withModule 116 [(0, vR 0), (3, vI m), (4, vL (31 * g + hL σ 7 m))] [] σ Q := fun hmd => by
      obtain ⟨d1, d2, d3⟩ := hd hmd
      have r1 := d1 m hm.1 hm.2
      have r2 := d2 m hm.1 hm.2
      have r3 := d3 m hm.1 hm.2
      rw [decide_eq_true hmd, if_pos rfl] at hQ
      refine j_lload (p2 := 118) dX_withModule_116 rfl rfl ?_
      refine j_aload_n (p2 := 119) dX_withModule_118 rfl rfl ?_
      refine j_getR (p2 := 122) dX_withModule_119 rfl fa_X_37 ly_0 rfl ?_
      refine j_getR (p2 := 125) dX_withModule_122 rfl fa_X_182 ly_21 rfl ?_
      refine j_iload_n (p2 := 126) dX_withModule_125 rfl rfl ?_
      refine j_dald (p2 := 127) dX_withModule_126 rfl ly_22 (by decide) (by omega) (by omega) ?_
      refine j_callS (m' := mN_bitsOf) (As := [_]) (p2 := 130) dX_withModule_127 rfl ml_X_185 ok_mN_bitsOf sm_mN_bitsOf rfl rfl (Nat.le_of_ble_eq_true rfl) (Nat.le_of_ble_eq_true rfl) ⟨(Nat.le_of_ble_eq_true rfl), (Nat.le_of_ble_eq_true rfl)⟩ ?_
      rw [r1.1]
      refine cN_bitsOf (Nat.lt_of_lt_of_le r1.2 (by decide)) (fun q => r3.1 (UInt64.toNat_inj.mp q)) ?_
      refine j_callS (m' := mX_with) (As := [_, _]) (p2 := 133) dX_withModule_130 rfl ml_X_285 ok_mX_with sm_mX_with rfl rfl (Nat.le_of_ble_eq_true rfl) (Nat.le_of_ble_eq_true rfl) ⟨(Nat.le_of_ble_eq_true rfl), (Nat.le_of_ble_eq_true rfl)⟩ ?_
      refine cX_with ?_
      refine j_lstore (p2 := 135) (lv' := [(0, _), (3, _), (4, _)]) dX_withModule_133 rfl (Nat.le_of_ble_eq_true rfl) ⟨rfl, rfl, rfl, trivial⟩ ?_
      refine j_lload (p2 := 137) dX_withModule_135 rfl rfl ?_
      refine j_aload_n (p2 := 138) dX_withModule_137 rfl rfl ?_
      refine j_getR (p2 := 141) dX_withModule_138 rfl fa_X_41 ly_0 rfl ?_
      refine j_getR (p2 := 144) dX_withModule_141 rfl fa_X_182 ly_34 rfl ?_
      refine j_iload_n (p2 := 145) dX_withModule_144 rfl rfl ?_
      refine j_dald (p2 := 146) dX_withModule_145 rfl ly_35 (by decide) (by omega) (by omega) ?_
      refine j_callS (m' := mN_floatBitsOf) (As := [_]) (p2 := 149) dX_withModule_146 rfl ml_X_189 ok_mN_floatBitsOf sm_mN_floatBitsOf rfl rfl (Nat.le_of_ble_eq_true rfl) (Nat.le_of_ble_eq_true rfl) ⟨(Nat.le_of_ble_eq_true rfl), (Nat.le_of_ble_eq_true rfl)⟩ ?_
      rw [r2.1]
      refine cN_floatBitsOf (Nat.lt_of_lt_of_le r2.2 (by decide)) (fun q => r3.2 (UInt32.toNat_inj.mp q)) ?_
      refine j_i2l (p2 := 150) dX_withModule_149 rfl ?_
      refine j_callS (m' := mX_with) (As := [_, _]) (p2 := 153) dX_withModule_150 rfl ml_X_285 ok_mX_with sm_mX_with rfl rfl (Nat.le_of_ble_eq_true rfl) (Nat.le_of_ble_eq_true rfl) ⟨(Nat.le_of_ble_eq_true rfl), (Nat.le_of_ble_eq_true rfl)⟩ ?_
      refine cX_with ?_
      refine j_lstore (p2 := 155) (lv' := [(0, _), (3, _), (4, _)]) dX_withModule_153 rfl (Nat.le_of_ble_eq_true rfl) ⟨rfl, rfl, rfl, trivial⟩ ?_
      refine j_lload (p2 := 157) dX_withModule_155 rfl rfl ?_
      refine j_aload_n (p2 := 158) dX_withModule_157 rfl rfl ?_
      refine j_getR (p2 := 161) dX_withModule_158 rfl fa_X_28 ly_0 rfl ?_
      refine j_getR (p2 := 164) dX_withModule_161 rfl fa_X_193 ly_19 rfl ?_
      refine j_iload_n (p2 := 165) dX_withModule_164 rfl rfl ?_
      refine j_iald (p2 := 166) dX_withModule_165 rfl ly_20 (by decide) (by omega) (by omega) ?_
      refine j_i2l (p2 := 167) dX_withModule_166 rfl ?_
      refine j_callS (m' := mX_with) (As := [_, _]) (p2 := 170) dX_withModule_167 rfl ml_X_285 ok_mX_with sm_mX_with rfl rfl (Nat.le_of_ble_eq_true rfl) (Nat.le_of_ble_eq_true rfl) ⟨(Nat.le_of_ble_eq_true rfl), (Nat.le_of_ble_eq_true rfl)⟩ ?_
      refine cX_with ?_
      refine j_lreturn dX_withModule_170 rfl (by exact hQ)
    refine j_lload (p2 := 92) dX_withModule_90 rfl rfl ?_
    refine j_aload_n (p2 := 93) dX_withModule_92 rfl rfl ?_
    refine j_getR (p2 := 96) dX_withModule_93 rfl fa_X_10 ly_0 rfl ?_
    refine j_getR (p2 := 99) dX_withModule_96 rfl fa_X_118 ly_3 rfl ?_
    refine j_iload_n (p2 := 100) dX_withModule_99 rfl rfl ?_
    refine j_lald (p2 := 101) dX_withModule_100 rfl ly_7 (by decide) (by omega) (by omega) ?_
    refine j_callS (m' := mX_with) (As := [_, _]) (p2 := 104) dX_withModule_101 rfl ml_X_285 ok_mX_with sm_mX_with rfl rfl (Nat.le_of_ble_eq_true rfl) (Nat.le_of_ble_eq_true rfl) ⟨(Nat.le_of_ble_eq_true rfl), (Nat.le_of_ble_eq_true rfl)⟩ ?_
    refine cX_with ?_
    refine j_lstore (p2 := 106) (lv' := [(0, _), (3, _), (4, _)]) dX_withModule_104 rfl (Nat.le_of_ble_eq_true rfl) ⟨rfl, rfl, rfl, trivial⟩ ?_
    refine j_aload_n (p2 := 107) dX_withModule_106 rfl rfl ?_
    refine j_getIk (p2 := 110) dX_withModule_107 rfl fa_X_68 ly_0 rfl (ki := 9) rfl ?_
    refine j_if_ne (p2 := 113) (tg := 116) dX_withModule_110 rfl (by decide) (by exact hmo) (fun h110 => ?_) (fun h110 => ?_)
    · refine J.loc (lv' := [(0, _), (3, _), (4, _)]) ⟨rfl, rfl, rfl, trivial⟩ ?_
      exact at116 h110
    · refine j_lload (p2 := 115) dX_withModule_113 rfl rfl ?_
      refine j_lreturn dX_withModule_115 rfl (by rw [decide_eq_false (fun q => q h110), if_neg (by decide)] at hQ; exact hQ)
  have loop : ∀ (n i : Nat), i ≤ 6 → 7 ≤ i + n → J mX_withModule 34 [(0, vR 0), (3, vI m), (4, vL (wIn fr (hI σ 10) m h0 i)), (6, vI (m * 6 + i))] [] σ Q := by
    intro n
    induction n with
    | zero => intro i h1 h2; exact absurd h2 (by omega)
    | succ n ih =>
      intro i h1 h2
      have cb : i < 6 → hI σ 9 (m * 6 + i) = fr (6 * m + i) ∧ (0 ≤ hI σ 10 (6 * m + i) ∧ hI σ 10 (6 * m + i) ≤ 1) := fun h => ⟨(hc.2.2.2 m i hm.1 hm.2 (by omega) (by omega)).1, (hc.2.2.2 m i hm.1 hm.2 (by omega) (by omega)).2.2⟩
      have em : m * 6 + (i : Int) = 6 * m + i := by omega
      have nx : i < 6 → ∀ x : Int64, x = (if hI σ 10 (6 * m + i) = 0 then 0 else 1) → J mX_withModule 34 [(0, vR 0), (3, vI m), (4, vL (31 * (31 * wIn fr (hI σ 10) m h0 i + i6L (hI σ 9 (m * 6 + i))) + x)), (6, vI (m * 6 + i + 1))] [] σ Q := fun hi x hx => by
        have := ih (i + 1) (by omega) (by omega)
        rw [show m * 6 + ((i + 1 : Nat) : Int) = m * 6 + (i : Int) + 1 by omega] at this
        rw [hx, (cb hi).1]
        exact this
      refine j_iload (p2 := 36) dX_withModule_34 rfl rfl ?_
      refine j_iload_n (p2 := 37) dX_withModule_36 rfl rfl ?_
      refine j_iconst (p2 := 38) dX_withModule_37 rfl ?_
      refine j_iadd (p2 := 39) dX_withModule_38 rfl ?_
      refine j_bipush (v := 6) (p2 := 41) dX_withModule_39 rfl rfl ?_
      refine j_imul (p2 := 42) dX_withModule_41 rfl ?_
      refine j_icmp_ge (p2 := 45) (tg := 90) dX_withModule_42 rfl (by decide) (by constructor <;> omega) (by constructor <;> omega) (fun h42 => ?_) (fun h42 => ?_)
      · refine J.loc (lv' := [(0, _), (3, _), (4, _)]) ⟨rfl, rfl, rfl, trivial⟩ ?_
        have e : i = 6 := by omega
        subst e
        exact at90
      · refine j_lload (p2 := 47) dX_withModule_45 rfl rfl ?_
        refine j_aload_n (p2 := 48) dX_withModule_47 rfl rfl ?_
        refine j_getR (p2 := 51) dX_withModule_48 rfl fa_X_10 ly_0 rfl ?_
        refine j_getR (p2 := 54) dX_withModule_51 rfl fa_X_267 ly_3 rfl ?_
        refine j_iload (p2 := 56) dX_withModule_54 rfl rfl ?_
        refine j_iald (p2 := 57) dX_withModule_56 rfl ly_9 (by decide) (by omega) (by omega) ?_
        refine j_i2l (p2 := 58) dX_withModule_57 rfl ?_
        refine j_callS (m' := mX_with) (As := [_, _]) (p2 := 61) dX_withModule_58 rfl ml_X_285 ok_mX_with sm_mX_with rfl rfl (Nat.le_of_ble_eq_true rfl) (Nat.le_of_ble_eq_true rfl) ⟨(Nat.le_of_ble_eq_true rfl), (Nat.le_of_ble_eq_true rfl)⟩ ?_
        refine cX_with ?_
        refine j_aload_n (p2 := 62) dX_withModule_61 rfl rfl ?_
        refine j_getR (p2 := 65) dX_withModule_62 rfl fa_X_10 ly_0 rfl ?_
        refine j_getR (p2 := 68) dX_withModule_65 rfl fa_X_270 ly_3 rfl ?_
        refine j_iload (p2 := 70) dX_withModule_68 rfl rfl ?_
        refine j_zald (p2 := 71) dX_withModule_70 rfl ly_10 (by decide) (by omega) (by omega) ?_
        refine j_if_eq (p2 := 74) (tg := 78) dX_withModule_71 rfl (by decide) (by rw [em]; have := cb (by omega); constructor <;> omega) (fun h71 => ?_) (fun h71 => ?_)
        · refine j_lconst (v := 0) (p2 := 79) dX_withModule_78 rfl rfl ?_
          refine j_callS (m' := mX_with) (As := [_, _]) (p2 := 82) dX_withModule_79 rfl ml_X_285 ok_mX_with sm_mX_with rfl rfl (Nat.le_of_ble_eq_true rfl) (Nat.le_of_ble_eq_true rfl) ⟨(Nat.le_of_ble_eq_true rfl), (Nat.le_of_ble_eq_true rfl)⟩ ?_
          refine cX_with ?_
          refine j_lstore (p2 := 84) (lv' := [(0, _), (3, _), (4, _), (6, _)]) dX_withModule_82 rfl (Nat.le_of_ble_eq_true rfl) ⟨rfl, rfl, rfl, rfl, trivial⟩ ?_
          refine j_iinc (p2 := 87) (lv' := [(0, _), (3, _), (4, _), (6, _)]) dX_withModule_84 rfl (Nat.le_of_ble_eq_true rfl) rfl ⟨rfl, rfl, rfl, rfl, trivial⟩ ?_
          refine j_goto (p2 := 34) dX_withModule_87 (by decide) ?_
          refine J.loc (lv' := [(0, _), (3, _), (4, _), (6, _)]) ⟨rfl, rfl, rfl, rfl, trivial⟩ ?_
          rw [em] at h71
          first
            | (have g : hI σ 10 (6 * m + i) = 0 := h71
               exact nx (by omega) _ (if_pos g).symm)
            | (have g : ¬ hI σ 10 (6 * m + i) = 0 := h71
               exact nx (by omega) _ (if_neg g).symm)
        · refine j_lconst (v := 1) (p2 := 75) dX_withModule_74 rfl rfl ?_
          refine j_goto (p2 := 79) dX_withModule_75 (by decide) ?_
          refine j_callS (m' := mX_with) (As := [_, _]) (p2 := 82) dX_withModule_79 rfl ml_X_285 ok_mX_with sm_mX_with rfl rfl (Nat.le_of_ble_eq_true rfl) (Nat.le_of_ble_eq_true rfl) ⟨(Nat.le_of_ble_eq_true rfl), (Nat.le_of_ble_eq_true rfl)⟩ ?_
          refine cX_with ?_
          refine j_lstore (p2 := 84) (lv' := [(0, _), (3, _), (4, _), (6, _)]) dX_withModule_82 rfl (Nat.le_of_ble_eq_true rfl) ⟨rfl, rfl, rfl, rfl, trivial⟩ ?_
          refine j_iinc (p2 := 87) (lv' := [(0, _), (3, _), (4, _), (6, _)]) dX_withModule_84 rfl (Nat.le_of_ble_eq_true rfl) rfl ⟨rfl, rfl, rfl, rfl, trivial⟩ ?_
          refine j_goto (p2 := 34) dX_withModule_87 (by decide) ?_
          refine J.loc (lv' := [(0, _), (3, _), (4, _), (6, _)]) ⟨rfl, rfl, rfl, rfl, trivial⟩ ?_
          rw [em] at h71
          first
            | (have g : hI σ 10 (6 * m + i) = 0 := h71
               exact nx (by omega) _ (if_pos g).symm)
            | (have g : ¬ hI σ 10 (6 * m + i) = 0 := h71
               exact nx (by omega) _ (if_neg g).symm)
  rw [hh0] at loop
  refine j_lload_n (p2 := 1) dX_withModule_0 rfl rfl ?_
  refine j_aload_n (p2 := 2) dX_withModule_1 rfl rfl ?_
  refine j_getR (p2 := 5) dX_withModule_2 rfl fa_X_10 ly_0 rfl ?_
  refine j_getR (p2 := 8) dX_withModule_5 rfl fa_X_97 ly_3 rfl ?_
  refine j_iload_n (p2 := 9) dX_withModule_8 rfl rfl ?_
  refine j_iald (p2 := 10) dX_withModule_9 rfl ly_4 (by decide) (by omega) (by omega) ?_
  refine j_i2l (p2 := 11) dX_withModule_10 rfl ?_
  refine j_callS (m' := mX_with) (As := [_, _]) (p2 := 14) dX_withModule_11 rfl ml_X_285 ok_mX_with sm_mX_with rfl rfl (Nat.le_of_ble_eq_true rfl) (Nat.le_of_ble_eq_true rfl) ⟨(Nat.le_of_ble_eq_true rfl), (Nat.le_of_ble_eq_true rfl)⟩ ?_
  refine cX_with ?_
  refine j_aload_n (p2 := 15) dX_withModule_14 rfl rfl ?_
  refine j_getR (p2 := 18) dX_withModule_15 rfl fa_X_10 ly_0 rfl ?_
  refine j_getR (p2 := 21) dX_withModule_18 rfl fa_X_293 ly_3 rfl ?_
  refine j_iload_n (p2 := 22) dX_withModule_21 rfl rfl ?_
  refine j_lald (p2 := 23) dX_withModule_22 rfl ly_5 (by decide) (by omega) (by omega) ?_
  refine j_callS (m' := mX_with) (As := [_, _]) (p2 := 26) dX_withModule_23 rfl ml_X_285 ok_mX_with sm_mX_with rfl rfl (Nat.le_of_ble_eq_true rfl) (Nat.le_of_ble_eq_true rfl) ⟨(Nat.le_of_ble_eq_true rfl), (Nat.le_of_ble_eq_true rfl)⟩ ?_
  refine cX_with ?_
  refine j_lstore (p2 := 28) (lv' := [(0, _), (3, _), (4, _)]) dX_withModule_26 rfl (Nat.le_of_ble_eq_true rfl) ⟨rfl, rfl, rfl, trivial⟩ ?_
  refine j_iload_n (p2 := 29) dX_withModule_28 rfl rfl ?_
  refine j_bipush (v := 6) (p2 := 31) dX_withModule_29 rfl rfl ?_
  refine j_imul (p2 := 32) dX_withModule_31 rfl ?_
  refine j_istore (p2 := 34) (lv' := [(0, _), (3, _), (4, _), (6, _)]) dX_withModule_32 rfl (Nat.le_of_ble_eq_true rfl) ⟨rfl, rfl, rfl, rfl, trivial⟩ ?_
  refine J.loc (lv' := [(0, _), (3, _), (4, _), (6, _)]) ⟨rfl, rfl, rfl, rfl, trivial⟩ ?_
  have := loop 7 0 (by omega) (by omega)
  rw [show m * 6 + ((0 : Nat) : Int) = m * 6 by omega] at this
  exact this
theorem cX_halved {q n : Int} (hz : SzC σ) (hq : inR q) (hn : inR n) (q1 : ¬ ((¬ hI σ 0 9 = 0 ∧ cM σ q) ∧ 1 ≤ n ∧ n ≤ 20) → Q (some (vL 0)) σ) (q2 : ¬ hI σ 0 9 = 0 → cM σ q → (1 ≤ n ∧ n ≤ 20) → ∀ Q' : Option PV → Hp → Prop, (∀ v ν, v.toNat % 2 ^ 63 < 2047 * 2 ^ 52 → v.toNat ≠ 2 ^ 63 → Q (some (vL v.toInt64)) ν → Q' (some (vD v)) ν) → Sp mR_greatestGap [vR 51, vI q, vI n] σ Q') : Sp mX_halved [vR 0, vI q, vI n] σ Q := by
  obtain ⟨z1, z2, z3⟩ := hz
  refine j_aload_n (p2 := 1) dX_halved_0 rfl rfl ?_
  refine j_iload_n (p2 := 2) dX_halved_1 rfl rfl ?_
  refine j_callV (m' := mX_isRead) (As := [_]) (p2 := 5) dX_halved_2 rfl ml_X_179 ok_mX_isRead im_mX_isRead se_mX_isRead rfl rfl (Nat.le_of_ble_eq_true rfl) ly_0 rfl (Nat.le_of_ble_eq_true rfl) ⟨(Nat.le_of_ble_eq_true rfl), (Nat.le_of_ble_eq_true rfl)⟩ ?_
  refine cX_isRead hq z1 z2 ?_
  refine j_ifb_eq (p2 := 8) (tg := 19) dX_halved_5 rfl (by decide) (fun h5 => ?_) (fun h5 => ?_)
  · refine j_lconst (v := 0) (p2 := 20) dX_halved_19 rfl rfl ?_
    refine j_lreturn dX_halved_20 rfl (by first | exact hv | (have g := of_decide_eq_false h5; exact q1 (fun z => g z.1)) | exact q1 (fun z => by omega))
  · refine j_iload_n (p2 := 9) dX_halved_8 rfl rfl ?_
    refine j_iconst (p2 := 10) dX_halved_9 rfl ?_
    refine j_icmp_lt (p2 := 13) (tg := 19) dX_halved_10 rfl (by decide) (by constructor <;> omega) (by constructor <;> omega) (fun h10 => ?_) (fun h10 => ?_)
    · refine j_lconst (v := 0) (p2 := 20) dX_halved_19 rfl rfl ?_
      refine j_lreturn dX_halved_20 rfl (by first | exact hv | (have g := of_decide_eq_false h5; exact q1 (fun z => g z.1)) | exact q1 (fun z => by omega))
    · refine j_iload_n (p2 := 14) dX_halved_13 rfl rfl ?_
      refine j_bipush (v := 20) (p2 := 16) dX_halved_14 rfl rfl ?_
      refine j_icmp_le (p2 := 19) (tg := 21) dX_halved_16 rfl (by decide) (by constructor <;> omega) (by constructor <;> omega) (fun h16 => ?_) (fun h16 => ?_)
      · refine j_aload_n (p2 := 22) dX_halved_21 rfl rfl ?_
        refine j_getR (p2 := 25) dX_halved_22 rfl fa_X_56 ly_0 rfl ?_
        refine j_iload_n (p2 := 26) dX_halved_25 rfl rfl ?_
        refine j_iload_n (p2 := 27) dX_halved_26 rfl rfl ?_
        refine j_callV (m' := mR_greatestGap) (As := [_, _]) (p2 := 30) dX_halved_27 rfl ml_X_263 ok_mR_greatestGap im_mR_greatestGap se_mR_greatestGap rfl rfl (Nat.le_of_ble_eq_true rfl) ly_51 rfl (Nat.le_of_ble_eq_true rfl) ⟨(Nat.le_of_ble_eq_true rfl), (Nat.le_of_ble_eq_true rfl)⟩ ?_
        have g := dec_t h5
        refine q2 g.1 g.2 (by omega) _ (fun v ν v1 v2 hv => ?_)
        refine j_callS (m' := mN_bitsOf) (As := [_]) (p2 := 33) dX_halved_30 rfl ml_X_185 ok_mN_bitsOf sm_mN_bitsOf rfl rfl (Nat.le_of_ble_eq_true rfl) (Nat.le_of_ble_eq_true rfl) ⟨(Nat.le_of_ble_eq_true rfl), (Nat.le_of_ble_eq_true rfl)⟩ ?_
        refine cN_bitsOf v1 v2 ?_
        refine j_lreturn dX_halved_33 rfl (by first | exact hv | (have g := of_decide_eq_false h5; exact q1 (fun z => g z.1)) | exact q1 (fun z => by omega))
      · refine j_lconst (v := 0) (p2 := 20) dX_halved_19 rfl rfl ?_
        refine j_lreturn dX_halved_20 rfl (by first | exact hv | (have g := of_decide_eq_false h5; exact q1 (fun z => g z.1)) | exact q1 (fun z => by omega))
end DIG
