/-! ===== kept and brought back; settings ===== -/
def isSet (k : Int) (s : UInt64) : Bool :=
  if k = 10 then decide (dwi s 13830554455654793216 FP.dconst1)
  else if k = 11 then decide (dwi s FP.dconst1 4625196817309499392) && decide (FP.dcmp s (FP.i2d (iw (FP.d2i s).toInt)) = some .eq)
  else if k = 12 then decide (dwi s FP.dconst0 4609434218613702656)
  else if k = 13 then decide (dwi s FP.dconst0 4696837146684686336) && decide (FP.dcmp s (FP.i2d (iw (FP.d2i s).toInt)) = some .eq)
  else decide (FP.dcmp s FP.dconst0 = some .eq)
section REF18
variable {σ : Hp} {Q : Option PV → Hp → Prop} {N : Nat}
theorem cM_isSetting {k : Int} {s : UInt64} (hk : inR k) (hQ : Q (some (vI (bI (isSet k s)))) σ) : Sp mM_isSetting [vI k, vD s] σ Q := by
  unfold isSet at hQ
  refine j_iload_n (p2 := 1) dM_isSetting_0 rfl rfl ?_
  refine j_bipush (v := 10) (p2 := 3) dM_isSetting_1 rfl rfl ?_
  refine j_icmp_ne (p2 := 6) (tg := 15) dM_isSetting_3 rfl (by decide) (by constructor <;> omega) (by constructor <;> omega) (fun h3 => ?_) (fun h3 => ?_)
  · refine j_iload_n (p2 := 16) dM_isSetting_15 rfl rfl ?_
    refine j_bipush (v := 11) (p2 := 18) dM_isSetting_16 rfl rfl ?_
    refine j_icmp_ne (p2 := 21) (tg := 46) dM_isSetting_18 rfl (by decide) (by constructor <;> omega) (by constructor <;> omega) (fun h18 => ?_) (fun h18 => ?_)
    · refine j_iload_n (p2 := 47) dM_isSetting_46 rfl rfl ?_
      refine j_bipush (v := 12) (p2 := 49) dM_isSetting_47 rfl rfl ?_
      refine j_icmp_ne (p2 := 52) (tg := 61) dM_isSetting_49 rfl (by decide) (by constructor <;> omega) (by constructor <;> omega) (fun h49 => ?_) (fun h49 => ?_)
      · refine j_iload_n (p2 := 62) dM_isSetting_61 rfl rfl ?_
        refine j_bipush (v := 13) (p2 := 64) dM_isSetting_62 rfl rfl ?_
        refine j_icmp_ne (p2 := 67) (tg := 92) dM_isSetting_64 rfl (by decide) (by constructor <;> omega) (by constructor <;> omega) (fun h64 => ?_) (fun h64 => ?_)
        · refine j_dload_n (p2 := 93) dM_isSetting_92 rfl rfl ?_
          refine j_dconst0 (p2 := 94) dM_isSetting_93 rfl ?_
          refine j_dcmp_l_ne (p1 := 95) (p2 := 98) (tg := 102) dM_isSetting_94 rfl dM_isSetting_95 rfl (by decide) (fun h94 => ?_) (fun h94 => ?_)
          · refine j_iconst (p2 := 103) dM_isSetting_102 rfl ?_
            refine j_zreturn dM_isSetting_103 rfl (by first | exact Or.inl rfl | exact Or.inr rfl | exact bI_or _ | omega) (by rw [if_neg h3, if_neg h18, if_neg h49, if_neg h64] at hQ; first | (rw [decide_eq_true h94] at hQ; exact hQ) | (rw [decide_eq_false h94] at hQ; exact hQ))
          · refine j_iconst (p2 := 99) dM_isSetting_98 rfl ?_
            refine j_goto (p2 := 103) dM_isSetting_99 (by decide) ?_
            refine j_zreturn dM_isSetting_103 rfl (by first | exact Or.inl rfl | exact Or.inr rfl | exact bI_or _ | omega) (by rw [if_neg h3, if_neg h18, if_neg h49, if_neg h64] at hQ; first | (rw [decide_eq_true h94] at hQ; exact hQ) | (rw [decide_eq_false h94] at hQ; exact hQ))
        · refine j_dload_n (p2 := 68) dM_isSetting_67 rfl rfl ?_
          refine j_dconst0 (p2 := 69) dM_isSetting_68 rfl ?_
          refine j_ldc2d (p2 := 72) dM_isSetting_69 rfl cw_M_179 ?_
          refine j_callS (m' := mM_isWithin) (As := [_, _, _]) (p2 := 75) dM_isSetting_72 rfl ml_M_171 ok_mM_isWithin sm_mM_isWithin rfl rfl (Nat.le_of_ble_eq_true rfl) (Nat.le_of_ble_eq_true rfl) ⟨(Nat.le_of_ble_eq_true rfl), (Nat.le_of_ble_eq_true rfl)⟩ ?_
          refine cM_isWithin ?_
          refine j_ifb_eq (p2 := 78) (tg := 90) dM_isSetting_75 rfl (by decide) (fun h75 => ?_) (fun h75 => ?_)
          · refine j_iconst (p2 := 91) dM_isSetting_90 rfl ?_
            refine j_zreturn dM_isSetting_91 rfl (by first | exact Or.inl rfl | exact Or.inr rfl | exact bI_or _ | omega) (by rw [if_neg h3, if_neg h18, if_neg h49, if_pos h64, h75] at hQ; first | exact hQ | (rw [decide_eq_true h82] at hQ; exact hQ) | (rw [decide_eq_false h82] at hQ; exact hQ))
          · refine j_dload_n (p2 := 79) dM_isSetting_78 rfl rfl ?_
            refine j_dload_n (p2 := 80) dM_isSetting_79 rfl rfl ?_
            refine j_d2i (p2 := 81) dM_isSetting_80 rfl ?_
            refine j_i2d (p2 := 82) dM_isSetting_81 rfl ?_
            refine j_dcmp_l_ne (p1 := 83) (p2 := 86) (tg := 90) dM_isSetting_82 rfl dM_isSetting_83 rfl (by decide) (fun h82 => ?_) (fun h82 => ?_)
            · refine j_iconst (p2 := 91) dM_isSetting_90 rfl ?_
              refine j_zreturn dM_isSetting_91 rfl (by first | exact Or.inl rfl | exact Or.inr rfl | exact bI_or _ | omega) (by rw [if_neg h3, if_neg h18, if_neg h49, if_pos h64, h75] at hQ; first | exact hQ | (rw [decide_eq_true h82] at hQ; exact hQ) | (rw [decide_eq_false h82] at hQ; exact hQ))
            · refine j_iconst (p2 := 87) dM_isSetting_86 rfl ?_
              refine j_goto (p2 := 91) dM_isSetting_87 (by decide) ?_
              refine j_zreturn dM_isSetting_91 rfl (by first | exact Or.inl rfl | exact Or.inr rfl | exact bI_or _ | omega) (by rw [if_neg h3, if_neg h18, if_neg h49, if_pos h64, h75] at hQ; first | exact hQ | (rw [decide_eq_true h82] at hQ; exact hQ) | (rw [decide_eq_false h82] at hQ; exact hQ))
      · refine j_dload_n (p2 := 53) dM_isSetting_52 rfl rfl ?_
        refine j_dconst0 (p2 := 54) dM_isSetting_53 rfl ?_
        refine j_ldc2d (p2 := 57) dM_isSetting_54 rfl cw_M_177 ?_
        refine j_callS (m' := mM_isWithin) (As := [_, _, _]) (p2 := 60) dM_isSetting_57 rfl ml_M_171 ok_mM_isWithin sm_mM_isWithin rfl rfl (Nat.le_of_ble_eq_true rfl) (Nat.le_of_ble_eq_true rfl) ⟨(Nat.le_of_ble_eq_true rfl), (Nat.le_of_ble_eq_true rfl)⟩ ?_
        refine cM_isWithin ?_
        refine j_zreturn dM_isSetting_60 rfl (by first | exact Or.inl rfl | exact Or.inr rfl | exact bI_or _ | omega) (by rw [if_neg h3, if_neg h18, if_pos h49] at hQ; exact hQ)
    · refine j_dload_n (p2 := 22) dM_isSetting_21 rfl rfl ?_
      refine j_dconst1 (p2 := 23) dM_isSetting_22 rfl ?_
      refine j_ldc2d (p2 := 26) dM_isSetting_23 rfl cw_M_175 ?_
      refine j_callS (m' := mM_isWithin) (As := [_, _, _]) (p2 := 29) dM_isSetting_26 rfl ml_M_171 ok_mM_isWithin sm_mM_isWithin rfl rfl (Nat.le_of_ble_eq_true rfl) (Nat.le_of_ble_eq_true rfl) ⟨(Nat.le_of_ble_eq_true rfl), (Nat.le_of_ble_eq_true rfl)⟩ ?_
      refine cM_isWithin ?_
      refine j_ifb_eq (p2 := 32) (tg := 44) dM_isSetting_29 rfl (by decide) (fun h29 => ?_) (fun h29 => ?_)
      · refine j_iconst (p2 := 45) dM_isSetting_44 rfl ?_
        refine j_zreturn dM_isSetting_45 rfl (by first | exact Or.inl rfl | exact Or.inr rfl | exact bI_or _ | omega) (by rw [if_neg h3, if_pos h18, h29] at hQ; first | exact hQ | (rw [decide_eq_true h36] at hQ; exact hQ) | (rw [decide_eq_false h36] at hQ; exact hQ))
      · refine j_dload_n (p2 := 33) dM_isSetting_32 rfl rfl ?_
        refine j_dload_n (p2 := 34) dM_isSetting_33 rfl rfl ?_
        refine j_d2i (p2 := 35) dM_isSetting_34 rfl ?_
        refine j_i2d (p2 := 36) dM_isSetting_35 rfl ?_
        refine j_dcmp_l_ne (p1 := 37) (p2 := 40) (tg := 44) dM_isSetting_36 rfl dM_isSetting_37 rfl (by decide) (fun h36 => ?_) (fun h36 => ?_)
        · refine j_iconst (p2 := 45) dM_isSetting_44 rfl ?_
          refine j_zreturn dM_isSetting_45 rfl (by first | exact Or.inl rfl | exact Or.inr rfl | exact bI_or _ | omega) (by rw [if_neg h3, if_pos h18, h29] at hQ; first | exact hQ | (rw [decide_eq_true h36] at hQ; exact hQ) | (rw [decide_eq_false h36] at hQ; exact hQ))
        · refine j_iconst (p2 := 41) dM_isSetting_40 rfl ?_
          refine j_goto (p2 := 45) dM_isSetting_41 (by decide) ?_
          refine j_zreturn dM_isSetting_45 rfl (by first | exact Or.inl rfl | exact Or.inr rfl | exact bI_or _ | omega) (by rw [if_neg h3, if_pos h18, h29] at hQ; first | exact hQ | (rw [decide_eq_true h36] at hQ; exact hQ) | (rw [decide_eq_false h36] at hQ; exact hQ))
  · refine j_dload_n (p2 := 7) dM_isSetting_6 rfl rfl ?_
    refine j_ldc2d (p2 := 10) dM_isSetting_7 rfl cw_M_169 ?_
    refine j_dconst1 (p2 := 11) dM_isSetting_10 rfl ?_
    refine j_callS (m' := mM_isWithin) (As := [_, _, _]) (p2 := 14) dM_isSetting_11 rfl ml_M_171 ok_mM_isWithin sm_mM_isWithin rfl rfl (Nat.le_of_ble_eq_true rfl) (Nat.le_of_ble_eq_true rfl) ⟨(Nat.le_of_ble_eq_true rfl), (Nat.le_of_ble_eq_true rfl)⟩ ?_
    refine cM_isWithin ?_
    refine j_zreturn dM_isSetting_14 rfl (by first | exact Or.inl rfl | exact Or.inr rfl | exact bI_or _ | omega) (by rw [if_pos h3] at hQ; exact hQ)
def kpX (σ : Hp) (a : Int → UInt64) (b : Int → UInt32) (c : Int → UInt64) (d : Int → UInt32) (e f : Int → Int) (g h : Int → UInt64) : Hp := wD (wD (wI (wI (wF (wD (wF (wD σ 90 a) 91 b) 92 c) 93 d) 96 e) 97 f) 98 g) 99 h
theorem kpX_s {a a' : Int → UInt64} {b b' : Int → UInt32} {c c' : Int → UInt64} {d d' : Int → UInt32} {e f e' f' : Int → Int} {g h g' h' : Int → UInt64} : wD (wD (wI (wI (wF (wD (wF (wD (kpX σ a b c d e f g h) 90 a') 91 b') 92 c') 93 d') 96 e') 97 f') 98 g') 99 h' = kpX σ a' b' c' d' e' f' g' h' := by
  unfold kpX
  apply hp_ext <;> intro x <;> simp only [hI_wI, hI_wL, hI_wF, hI_wD, hL_wI, hL_wL, hL_wF, hL_wD, hF_wI, hF_wL, hF_wF, hF_wD, hD_wI, hD_wL, hD_wF, hD_wD]
  · by_cases h1 : x = 96 <;> by_cases h2 : x = 97 <;> simp_all
  · by_cases h1 : x = 91 <;> by_cases h2 : x = 93 <;> simp_all
  · by_cases h1 : x = 90 <;> by_cases h2 : x = 92 <;> by_cases h3 : x = 98 <;> by_cases h4 : x = 99 <;> simp_all
def kpY (σ : Hp) (i : Nat) : Hp := kpX σ (pw (hD σ 90) (hD σ 80) i) (pw (hF σ 91) (hF σ 81) i) (pw (hD σ 92) (hD σ 82) i) (pw (hF σ 93) (hF σ 83) i) (pw (hI σ 96) (hI σ 86) i) (pw (hI σ 97) (hI σ 87) i) (pw (hD σ 98) (hD σ 88) i) (pw (hD σ 99) (hD σ 89) i)
theorem kpY_0 : kpY σ 0 = σ := by
  unfold kpY kpX
  rw [pw_0, pw_0, pw_0, pw_0, pw_0, pw_0, pw_0, pw_0, wD_id]
  rw [show wF σ 91 (hF σ 91) = σ from wF_id σ 91, wD_id, wF_id, wI_id, wI_id, wD_id, wD_id]
def kpZ (σ : Hp) (i : Nat) : Hp := wF (wD σ 94 (pw (hD σ 94) (hD σ 84) i)) 95 (pw (hF σ 95) (hF σ 85) i)
theorem kpZ_0 : kpZ σ 0 = σ := by unfold kpZ; rw [pw_0, pw_0, wD_id]; exact wF_id σ 95
def kpH (σ : Hp) : Hp := kpZ (kpY (wI σ 69 (fup (hI σ 69) 58 (hI σ 69 12))) 20) 320
theorem cM_keep (hQ : Q none (kpH σ)) : Sp mM_keep [vR 69] σ Q := by
  unfold kpH at hQ
  have second : ∀ (σ : Hp), Q none (kpZ σ 320) → ∀ (n i : Nat), i ≤ 320 → 321 ≤ i + n → J mM_keep 120 [(0, vR 69), (1, vI i)] [] (kpZ σ i) Q := by
    intro σ hQ n
    induction n with
    | zero => intro i h1 h2; exact absurd h2 (by omega)
    | succ n ih =>
      intro i h1 h2
      have yes : kpZ σ (i + 1) = wF (wD (kpZ σ i) 94 (fup (hD (kpZ σ i) 94) i (hD σ 84 i))) 95 (fup (hF (kpZ σ i) 95) i (hF σ 85 i)) := by
        unfold kpZ
        rw [wDF_s, ← pw_s, ← pw_s]
        rfl
      have ih2 : i < 320 → J mM_keep 120 [(0, vR 69), (1, vI (i + 1))] [] (kpZ σ (i + 1)) Q := fun h => ih (i + 1) (by omega) (by omega)
      refine j_iload_n (p2 := 121) dM_keep_120 rfl rfl ?_
      refine j_sipush (v := 320) (p2 := 124) dM_keep_121 rfl rfl ?_
      refine j_icmp_ge (p2 := 127) (tg := 157) dM_keep_124 rfl (by decide) (by constructor <;> omega) (by constructor <;> omega) (fun h124 => ?_) (fun h124 => ?_)
      · refine j_return dM_keep_157 rfl (by have e : i = 320 := (by omega); subst e; exact hQ)
      · refine j_aload_n (p2 := 128) dM_keep_127 rfl rfl ?_
        refine j_getR (p2 := 131) dM_keep_128 rfl fa_M_89 ly_69 rfl ?_
        refine j_iload_n (p2 := 132) dM_keep_131 rfl rfl ?_
        refine j_aload_n (p2 := 133) dM_keep_132 rfl rfl ?_
        refine j_getR (p2 := 136) dM_keep_133 rfl fa_M_59 ly_69 rfl ?_
        refine j_iload_n (p2 := 137) dM_keep_136 rfl rfl ?_
        refine j_dald (p2 := 138) dM_keep_137 rfl ly_84 (by decide) (by omega) (by omega) ?_
        refine j_dastk (p2 := 139) dM_keep_138 rfl ly_94 (by decide) (by omega) (by omega) ?_
        refine j_aload_n (p2 := 140) dM_keep_139 rfl rfl ?_
        refine j_getR (p2 := 143) dM_keep_140 rfl fa_M_92 ly_69 rfl ?_
        refine j_iload_n (p2 := 144) dM_keep_143 rfl rfl ?_
        refine j_aload_n (p2 := 145) dM_keep_144 rfl rfl ?_
        refine j_getR (p2 := 148) dM_keep_145 rfl fa_M_62 ly_69 rfl ?_
        refine j_iload_n (p2 := 149) dM_keep_148 rfl rfl ?_
        refine j_fald (p2 := 150) dM_keep_149 rfl ly_85 (by decide) (by omega) (by omega) ?_
        refine j_fastk (p2 := 151) dM_keep_150 rfl ly_95 (by decide) (by omega) (by omega) ?_
        refine j_iinc (p2 := 154) (lv' := [(0, _), (1, _)]) dM_keep_151 rfl (Nat.le_of_ble_eq_true rfl) rfl ⟨rfl, rfl, trivial⟩ ?_
        refine j_goto (p2 := 120) dM_keep_154 (by decide) ?_
        refine J.loc (lv' := [(0, _), (1, _)]) ⟨rfl, rfl, trivial⟩ ?_
        exact (ih2 (by omega)).hp yes
  have first : ∀ (σ : Hp), Q none (kpZ (kpY σ 20) 320) → ∀ (n i : Nat), i ≤ 20 → 21 ≤ i + n → J mM_keep 10 [(0, vR 69), (1, vI i)] [] (kpY σ i) Q := by
    intro σ hQ n
    induction n with
    | zero => intro i h1 h2; exact absurd h2 (by omega)
    | succ n ih =>
      intro i h1 h2
      have yes : kpY σ (i + 1) = wD (wD (wI (wI (wF (wD (wF (wD (kpY σ i) 90 (fup (hD (kpY σ i) 90) i (hD σ 80 i))) 91 (fup (hF (kpY σ i) 91) i (hF σ 81 i))) 92 (fup (hD (kpY σ i) 92) i (hD σ 82 i))) 93 (fup (hF (kpY σ i) 93) i (hF σ 83 i))) 96 (fup (hI (kpY σ i) 96) i (hI σ 86 i))) 97 (fup (hI (kpY σ i) 97) i (hI σ 87 i))) 98 (fup (hD (kpY σ i) 98) i (hD σ 88 i))) 99 (fup (hD (kpY σ i) 99) i (hD σ 89 i)) := by
        unfold kpY
        rw [kpX_s, ← pw_s, ← pw_s, ← pw_s, ← pw_s, ← pw_s, ← pw_s, ← pw_s, ← pw_s]
        rfl
      have ih2 : i < 20 → J mM_keep 10 [(0, vR 69), (1, vI (i + 1))] [] (kpY σ (i + 1)) Q := fun h => ih (i + 1) (by omega) (by omega)
      refine j_iload_n (p2 := 11) dM_keep_10 rfl rfl ?_
      refine j_bipush (v := 20) (p2 := 13) dM_keep_11 rfl rfl ?_
      refine j_icmp_ge (p2 := 16) (tg := 118) dM_keep_13 rfl (by decide) (by constructor <;> omega) (by constructor <;> omega) (fun h13 => ?_) (fun h13 => ?_)
      · refine j_iconst (p2 := 119) dM_keep_118 rfl ?_
        refine j_istore_n (p2 := 120) (lv' := [(0, _), (1, _)]) dM_keep_119 rfl (Nat.le_of_ble_eq_true rfl) ⟨rfl, rfl, trivial⟩ ?_
        refine J.loc (lv' := [(0, _), (1, _)]) ⟨rfl, rfl, trivial⟩ ?_
        have e : i = 20 := by omega
        subst e
        exact (second _ hQ 321 0 (by omega) (by omega)).hp kpZ_0
      · refine j_aload_n (p2 := 17) dM_keep_16 rfl rfl ?_
        refine j_getR (p2 := 20) dM_keep_17 rfl fa_M_77 ly_69 rfl ?_
        refine j_iload_n (p2 := 21) dM_keep_20 rfl rfl ?_
        refine j_aload_n (p2 := 22) dM_keep_21 rfl rfl ?_
        refine j_getR (p2 := 25) dM_keep_22 rfl fa_M_46 ly_69 rfl ?_
        refine j_iload_n (p2 := 26) dM_keep_25 rfl rfl ?_
        refine j_dald (p2 := 27) dM_keep_26 rfl ly_80 (by decide) (by omega) (by omega) ?_
        refine j_dastk (p2 := 28) dM_keep_27 rfl ly_90 (by decide) (by omega) (by omega) ?_
        refine j_aload_n (p2 := 29) dM_keep_28 rfl rfl ?_
        refine j_getR (p2 := 32) dM_keep_29 rfl fa_M_80 ly_69 rfl ?_
        refine j_iload_n (p2 := 33) dM_keep_32 rfl rfl ?_
        refine j_aload_n (p2 := 34) dM_keep_33 rfl rfl ?_
        refine j_getR (p2 := 37) dM_keep_34 rfl fa_M_49 ly_69 rfl ?_
        refine j_iload_n (p2 := 38) dM_keep_37 rfl rfl ?_
        refine j_fald (p2 := 39) dM_keep_38 rfl ly_81 (by decide) (by omega) (by omega) ?_
        refine j_fastk (p2 := 40) dM_keep_39 rfl ly_91 (by decide) (by omega) (by omega) ?_
        refine j_aload_n (p2 := 41) dM_keep_40 rfl rfl ?_
        refine j_getR (p2 := 44) dM_keep_41 rfl fa_M_83 ly_69 rfl ?_
        refine j_iload_n (p2 := 45) dM_keep_44 rfl rfl ?_
        refine j_aload_n (p2 := 46) dM_keep_45 rfl rfl ?_
        refine j_getR (p2 := 49) dM_keep_46 rfl fa_M_53 ly_69 rfl ?_
        refine j_iload_n (p2 := 50) dM_keep_49 rfl rfl ?_
        refine j_dald (p2 := 51) dM_keep_50 rfl ly_82 (by decide) (by omega) (by omega) ?_
        refine j_dastk (p2 := 52) dM_keep_51 rfl ly_92 (by decide) (by omega) (by omega) ?_
        refine j_aload_n (p2 := 53) dM_keep_52 rfl rfl ?_
        refine j_getR (p2 := 56) dM_keep_53 rfl fa_M_86 ly_69 rfl ?_
        refine j_iload_n (p2 := 57) dM_keep_56 rfl rfl ?_
        refine j_aload_n (p2 := 58) dM_keep_57 rfl rfl ?_
        refine j_getR (p2 := 61) dM_keep_58 rfl fa_M_56 ly_69 rfl ?_
        refine j_iload_n (p2 := 62) dM_keep_61 rfl rfl ?_
        refine j_fald (p2 := 63) dM_keep_62 rfl ly_83 (by decide) (by omega) (by omega) ?_
        refine j_fastk (p2 := 64) dM_keep_63 rfl ly_93 (by decide) (by omega) (by omega) ?_
        refine j_aload_n (p2 := 65) dM_keep_64 rfl rfl ?_
        refine j_getR (p2 := 68) dM_keep_65 rfl fa_M_95 ly_69 rfl ?_
        refine j_iload_n (p2 := 69) dM_keep_68 rfl rfl ?_
        refine j_aload_n (p2 := 70) dM_keep_69 rfl rfl ?_
        refine j_getR (p2 := 73) dM_keep_70 rfl fa_M_65 ly_69 rfl ?_
        refine j_iload_n (p2 := 74) dM_keep_73 rfl rfl ?_
        refine j_iald (p2 := 75) dM_keep_74 rfl ly_86 (by decide) (by omega) (by omega) ?_
        refine j_iastk (p2 := 76) dM_keep_75 rfl ly_96 (by decide) (by omega) (by omega) ?_
        refine j_aload_n (p2 := 77) dM_keep_76 rfl rfl ?_
        refine j_getR (p2 := 80) dM_keep_77 rfl fa_M_98 ly_69 rfl ?_
        refine j_iload_n (p2 := 81) dM_keep_80 rfl rfl ?_
        refine j_aload_n (p2 := 82) dM_keep_81 rfl rfl ?_
        refine j_getR (p2 := 85) dM_keep_82 rfl fa_M_68 ly_69 rfl ?_
        refine j_iload_n (p2 := 86) dM_keep_85 rfl rfl ?_
        refine j_iald (p2 := 87) dM_keep_86 rfl ly_87 (by decide) (by omega) (by omega) ?_
        refine j_iastk (p2 := 88) dM_keep_87 rfl ly_97 (by decide) (by omega) (by omega) ?_
        refine j_aload_n (p2 := 89) dM_keep_88 rfl rfl ?_
        refine j_getR (p2 := 92) dM_keep_89 rfl fa_M_101 ly_69 rfl ?_
        refine j_iload_n (p2 := 93) dM_keep_92 rfl rfl ?_
        refine j_aload_n (p2 := 94) dM_keep_93 rfl rfl ?_
        refine j_getR (p2 := 97) dM_keep_94 rfl fa_M_71 ly_69 rfl ?_
        refine j_iload_n (p2 := 98) dM_keep_97 rfl rfl ?_
        refine j_dald (p2 := 99) dM_keep_98 rfl ly_88 (by decide) (by omega) (by omega) ?_
        refine j_dastk (p2 := 100) dM_keep_99 rfl ly_98 (by decide) (by omega) (by omega) ?_
        refine j_aload_n (p2 := 101) dM_keep_100 rfl rfl ?_
        refine j_getR (p2 := 104) dM_keep_101 rfl fa_M_104 ly_69 rfl ?_
        refine j_iload_n (p2 := 105) dM_keep_104 rfl rfl ?_
        refine j_aload_n (p2 := 106) dM_keep_105 rfl rfl ?_
        refine j_getR (p2 := 109) dM_keep_106 rfl fa_M_74 ly_69 rfl ?_
        refine j_iload_n (p2 := 110) dM_keep_109 rfl rfl ?_
        refine j_dald (p2 := 111) dM_keep_110 rfl ly_89 (by decide) (by omega) (by omega) ?_
        refine j_dastk (p2 := 112) dM_keep_111 rfl ly_99 (by decide) (by omega) (by omega) ?_
        refine j_iinc (p2 := 115) (lv' := [(0, _), (1, _)]) dM_keep_112 rfl (Nat.le_of_ble_eq_true rfl) rfl ⟨rfl, rfl, trivial⟩ ?_
        refine j_goto (p2 := 10) dM_keep_115 (by decide) ?_
        refine J.loc (lv' := [(0, _), (1, _)]) ⟨rfl, rfl, trivial⟩ ?_
        exact (ih2 (by omega)).hp yes
  refine j_aload_n (p2 := 1) dM_keep_0 rfl rfl ?_
  refine j_aload_n (p2 := 2) dM_keep_1 rfl rfl ?_
  refine j_getIk (p2 := 5) dM_keep_2 rfl fa_M_322 ly_69 rfl (ki := 12) rfl ?_
  refine j_putIk (p2 := 8) dM_keep_5 rfl fw_M_362 ly_69 rfl (ki := 58) rfl ?_
  refine j_iconst (p2 := 9) dM_keep_8 rfl ?_
  refine j_istore_n (p2 := 10) (lv' := [(0, _), (1, _)]) dM_keep_9 rfl (Nat.le_of_ble_eq_true rfl) ⟨rfl, rfl, trivial⟩ ?_
  refine J.loc (lv' := [(0, _), (1, _)]) ⟨rfl, rfl, trivial⟩ ?_
  exact (first _ hQ 21 0 (by omega) (by omega)).hp kpY_0
def bkX (σ : Hp) (a : Int → UInt64) (b : Int → UInt32) (c : Int → UInt64) (d : Int → UInt32) (e f : Int → Int) (g h : Int → UInt64) : Hp := wD (wD (wI (wI (wF (wD (wF (wD σ 80 a) 81 b) 82 c) 83 d) 86 e) 87 f) 88 g) 89 h
theorem bkX_s {a a' : Int → UInt64} {b b' : Int → UInt32} {c c' : Int → UInt64} {d d' : Int → UInt32} {e f e' f' : Int → Int} {g h g' h' : Int → UInt64} : wD (wD (wI (wI (wF (wD (wF (wD (bkX σ a b c d e f g h) 80 a') 81 b') 82 c') 83 d') 86 e') 87 f') 88 g') 89 h' = bkX σ a' b' c' d' e' f' g' h' := by
  unfold bkX
  apply hp_ext <;> intro x <;> simp only [hI_wI, hI_wL, hI_wF, hI_wD, hL_wI, hL_wL, hL_wF, hL_wD, hF_wI, hF_wL, hF_wF, hF_wD, hD_wI, hD_wL, hD_wF, hD_wD]
  · by_cases h1 : x = 86 <;> by_cases h2 : x = 87 <;> simp_all
  · by_cases h1 : x = 81 <;> by_cases h2 : x = 83 <;> simp_all
  · by_cases h1 : x = 80 <;> by_cases h2 : x = 82 <;> by_cases h3 : x = 88 <;> by_cases h4 : x = 89 <;> simp_all
def bkY (σ : Hp) (i : Nat) : Hp := bkX σ (pw (hD σ 80) (hD σ 90) i) (pw (hF σ 81) (hF σ 91) i) (pw (hD σ 82) (hD σ 92) i) (pw (hF σ 83) (hF σ 93) i) (pw (hI σ 86) (hI σ 96) i) (pw (hI σ 87) (hI σ 97) i) (pw (hD σ 88) (hD σ 98) i) (pw (hD σ 89) (hD σ 99) i)
theorem bkY_0 : bkY σ 0 = σ := by
  unfold bkY bkX
  rw [pw_0, pw_0, pw_0, pw_0, pw_0, pw_0, pw_0, pw_0, wD_id]
  rw [show wF σ 81 (hF σ 81) = σ from wF_id σ 81, wD_id, wF_id, wI_id, wI_id, wD_id, wD_id]
def bkZ (σ : Hp) (i : Nat) : Hp := wF (wD σ 84 (pw (hD σ 84) (hD σ 94) i)) 85 (pw (hF σ 85) (hF σ 95) i)
theorem bkZ_0 : bkZ σ 0 = σ := by unfold bkZ; rw [pw_0, pw_0, wD_id]; exact wF_id σ 85
def bkH (σ : Hp) : Hp := bkZ (bkY (wI σ 69 (fup (hI σ 69) 12 (hI σ 69 58))) 20) 320
theorem cM_back (hQ : Q none (bkH σ)) : Sp mM_back [vR 69] σ Q := by
  unfold bkH at hQ
  have second : ∀ (σ : Hp), Q none (bkZ σ 320) → ∀ (n i : Nat), i ≤ 320 → 321 ≤ i + n → J mM_back 120 [(0, vR 69), (1, vI i)] [] (bkZ σ i) Q := by
    intro σ hQ n
    induction n with
    | zero => intro i h1 h2; exact absurd h2 (by omega)
    | succ n ih =>
      intro i h1 h2
      have yes : bkZ σ (i + 1) = wF (wD (bkZ σ i) 84 (fup (hD (bkZ σ i) 84) i (hD σ 94 i))) 85 (fup (hF (bkZ σ i) 85) i (hF σ 95 i)) := by
        unfold bkZ
        rw [wDF_s, ← pw_s, ← pw_s]
        rfl
      have ih2 : i < 320 → J mM_back 120 [(0, vR 69), (1, vI (i + 1))] [] (bkZ σ (i + 1)) Q := fun h => ih (i + 1) (by omega) (by omega)
      refine j_iload_n (p2 := 121) dM_back_120 rfl rfl ?_
      refine j_sipush (v := 320) (p2 := 124) dM_back_121 rfl rfl ?_
      refine j_icmp_ge (p2 := 127) (tg := 157) dM_back_124 rfl (by decide) (by constructor <;> omega) (by constructor <;> omega) (fun h124 => ?_) (fun h124 => ?_)
      · refine j_return dM_back_157 rfl (by have e : i = 320 := (by omega); subst e; exact hQ)
      · refine j_aload_n (p2 := 128) dM_back_127 rfl rfl ?_
        refine j_getR (p2 := 131) dM_back_128 rfl fa_M_59 ly_69 rfl ?_
        refine j_iload_n (p2 := 132) dM_back_131 rfl rfl ?_
        refine j_aload_n (p2 := 133) dM_back_132 rfl rfl ?_
        refine j_getR (p2 := 136) dM_back_133 rfl fa_M_89 ly_69 rfl ?_
        refine j_iload_n (p2 := 137) dM_back_136 rfl rfl ?_
        refine j_dald (p2 := 138) dM_back_137 rfl ly_94 (by decide) (by omega) (by omega) ?_
        refine j_dastk (p2 := 139) dM_back_138 rfl ly_84 (by decide) (by omega) (by omega) ?_
        refine j_aload_n (p2 := 140) dM_back_139 rfl rfl ?_
        refine j_getR (p2 := 143) dM_back_140 rfl fa_M_62 ly_69 rfl ?_
        refine j_iload_n (p2 := 144) dM_back_143 rfl rfl ?_
        refine j_aload_n (p2 := 145) dM_back_144 rfl rfl ?_
        refine j_getR (p2 := 148) dM_back_145 rfl fa_M_92 ly_69 rfl ?_
        refine j_iload_n (p2 := 149) dM_back_148 rfl rfl ?_
        refine j_fald (p2 := 150) dM_back_149 rfl ly_95 (by decide) (by omega) (by omega) ?_
        refine j_fastk (p2 := 151) dM_back_150 rfl ly_85 (by decide) (by omega) (by omega) ?_
        refine j_iinc (p2 := 154) (lv' := [(0, _), (1, _)]) dM_back_151 rfl (Nat.le_of_ble_eq_true rfl) rfl ⟨rfl, rfl, trivial⟩ ?_
        refine j_goto (p2 := 120) dM_back_154 (by decide) ?_
        refine J.loc (lv' := [(0, _), (1, _)]) ⟨rfl, rfl, trivial⟩ ?_
        exact (ih2 (by omega)).hp yes
  have first : ∀ (σ : Hp), Q none (bkZ (bkY σ 20) 320) → ∀ (n i : Nat), i ≤ 20 → 21 ≤ i + n → J mM_back 10 [(0, vR 69), (1, vI i)] [] (bkY σ i) Q := by
    intro σ hQ n
    induction n with
    | zero => intro i h1 h2; exact absurd h2 (by omega)
    | succ n ih =>
      intro i h1 h2
      have yes : bkY σ (i + 1) = wD (wD (wI (wI (wF (wD (wF (wD (bkY σ i) 80 (fup (hD (bkY σ i) 80) i (hD σ 90 i))) 81 (fup (hF (bkY σ i) 81) i (hF σ 91 i))) 82 (fup (hD (bkY σ i) 82) i (hD σ 92 i))) 83 (fup (hF (bkY σ i) 83) i (hF σ 93 i))) 86 (fup (hI (bkY σ i) 86) i (hI σ 96 i))) 87 (fup (hI (bkY σ i) 87) i (hI σ 97 i))) 88 (fup (hD (bkY σ i) 88) i (hD σ 98 i))) 89 (fup (hD (bkY σ i) 89) i (hD σ 99 i)) := by
        unfold bkY
        rw [bkX_s, ← pw_s, ← pw_s, ← pw_s, ← pw_s, ← pw_s, ← pw_s, ← pw_s, ← pw_s]
        rfl
      have ih2 : i < 20 → J mM_back 10 [(0, vR 69), (1, vI (i + 1))] [] (bkY σ (i + 1)) Q := fun h => ih (i + 1) (by omega) (by omega)
      refine j_iload_n (p2 := 11) dM_back_10 rfl rfl ?_
      refine j_bipush (v := 20) (p2 := 13) dM_back_11 rfl rfl ?_
      refine j_icmp_ge (p2 := 16) (tg := 118) dM_back_13 rfl (by decide) (by constructor <;> omega) (by constructor <;> omega) (fun h13 => ?_) (fun h13 => ?_)
      · refine j_iconst (p2 := 119) dM_back_118 rfl ?_
        refine j_istore_n (p2 := 120) (lv' := [(0, _), (1, _)]) dM_back_119 rfl (Nat.le_of_ble_eq_true rfl) ⟨rfl, rfl, trivial⟩ ?_
        refine J.loc (lv' := [(0, _), (1, _)]) ⟨rfl, rfl, trivial⟩ ?_
        have e : i = 20 := by omega
        subst e
        exact (second _ hQ 321 0 (by omega) (by omega)).hp bkZ_0
      · refine j_aload_n (p2 := 17) dM_back_16 rfl rfl ?_
        refine j_getR (p2 := 20) dM_back_17 rfl fa_M_46 ly_69 rfl ?_
        refine j_iload_n (p2 := 21) dM_back_20 rfl rfl ?_
        refine j_aload_n (p2 := 22) dM_back_21 rfl rfl ?_
        refine j_getR (p2 := 25) dM_back_22 rfl fa_M_77 ly_69 rfl ?_
        refine j_iload_n (p2 := 26) dM_back_25 rfl rfl ?_
        refine j_dald (p2 := 27) dM_back_26 rfl ly_90 (by decide) (by omega) (by omega) ?_
        refine j_dastk (p2 := 28) dM_back_27 rfl ly_80 (by decide) (by omega) (by omega) ?_
        refine j_aload_n (p2 := 29) dM_back_28 rfl rfl ?_
        refine j_getR (p2 := 32) dM_back_29 rfl fa_M_49 ly_69 rfl ?_
        refine j_iload_n (p2 := 33) dM_back_32 rfl rfl ?_
        refine j_aload_n (p2 := 34) dM_back_33 rfl rfl ?_
        refine j_getR (p2 := 37) dM_back_34 rfl fa_M_80 ly_69 rfl ?_
        refine j_iload_n (p2 := 38) dM_back_37 rfl rfl ?_
        refine j_fald (p2 := 39) dM_back_38 rfl ly_91 (by decide) (by omega) (by omega) ?_
        refine j_fastk (p2 := 40) dM_back_39 rfl ly_81 (by decide) (by omega) (by omega) ?_
        refine j_aload_n (p2 := 41) dM_back_40 rfl rfl ?_
        refine j_getR (p2 := 44) dM_back_41 rfl fa_M_53 ly_69 rfl ?_
        refine j_iload_n (p2 := 45) dM_back_44 rfl rfl ?_
        refine j_aload_n (p2 := 46) dM_back_45 rfl rfl ?_
        refine j_getR (p2 := 49) dM_back_46 rfl fa_M_83 ly_69 rfl ?_
        refine j_iload_n (p2 := 50) dM_back_49 rfl rfl ?_
        refine j_dald (p2 := 51) dM_back_50 rfl ly_92 (by decide) (by omega) (by omega) ?_
        refine j_dastk (p2 := 52) dM_back_51 rfl ly_82 (by decide) (by omega) (by omega) ?_
        refine j_aload_n (p2 := 53) dM_back_52 rfl rfl ?_
        refine j_getR (p2 := 56) dM_back_53 rfl fa_M_56 ly_69 rfl ?_
        refine j_iload_n (p2 := 57) dM_back_56 rfl rfl ?_
        refine j_aload_n (p2 := 58) dM_back_57 rfl rfl ?_
        refine j_getR (p2 := 61) dM_back_58 rfl fa_M_86 ly_69 rfl ?_
        refine j_iload_n (p2 := 62) dM_back_61 rfl rfl ?_
        refine j_fald (p2 := 63) dM_back_62 rfl ly_93 (by decide) (by omega) (by omega) ?_
        refine j_fastk (p2 := 64) dM_back_63 rfl ly_83 (by decide) (by omega) (by omega) ?_
        refine j_aload_n (p2 := 65) dM_back_64 rfl rfl ?_
        refine j_getR (p2 := 68) dM_back_65 rfl fa_M_65 ly_69 rfl ?_
        refine j_iload_n (p2 := 69) dM_back_68 rfl rfl ?_
        refine j_aload_n (p2 := 70) dM_back_69 rfl rfl ?_
        refine j_getR (p2 := 73) dM_back_70 rfl fa_M_95 ly_69 rfl ?_
        refine j_iload_n (p2 := 74) dM_back_73 rfl rfl ?_
        refine j_iald (p2 := 75) dM_back_74 rfl ly_96 (by decide) (by omega) (by omega) ?_
        refine j_iastk (p2 := 76) dM_back_75 rfl ly_86 (by decide) (by omega) (by omega) ?_
        refine j_aload_n (p2 := 77) dM_back_76 rfl rfl ?_
        refine j_getR (p2 := 80) dM_back_77 rfl fa_M_68 ly_69 rfl ?_
        refine j_iload_n (p2 := 81) dM_back_80 rfl rfl ?_
        refine j_aload_n (p2 := 82) dM_back_81 rfl rfl ?_
        refine j_getR (p2 := 85) dM_back_82 rfl fa_M_98 ly_69 rfl ?_
        refine j_iload_n (p2 := 86) dM_back_85 rfl rfl ?_
        refine j_iald (p2 := 87) dM_back_86 rfl ly_97 (by decide) (by omega) (by omega) ?_
        refine j_iastk (p2 := 88) dM_back_87 rfl ly_87 (by decide) (by omega) (by omega) ?_
        refine j_aload_n (p2 := 89) dM_back_88 rfl rfl ?_
        refine j_getR (p2 := 92) dM_back_89 rfl fa_M_71 ly_69 rfl ?_
        refine j_iload_n (p2 := 93) dM_back_92 rfl rfl ?_
        refine j_aload_n (p2 := 94) dM_back_93 rfl rfl ?_
        refine j_getR (p2 := 97) dM_back_94 rfl fa_M_101 ly_69 rfl ?_
        refine j_iload_n (p2 := 98) dM_back_97 rfl rfl ?_
        refine j_dald (p2 := 99) dM_back_98 rfl ly_98 (by decide) (by omega) (by omega) ?_
        refine j_dastk (p2 := 100) dM_back_99 rfl ly_88 (by decide) (by omega) (by omega) ?_
        refine j_aload_n (p2 := 101) dM_back_100 rfl rfl ?_
        refine j_getR (p2 := 104) dM_back_101 rfl fa_M_74 ly_69 rfl ?_
        refine j_iload_n (p2 := 105) dM_back_104 rfl rfl ?_
        refine j_aload_n (p2 := 106) dM_back_105 rfl rfl ?_
        refine j_getR (p2 := 109) dM_back_106 rfl fa_M_104 ly_69 rfl ?_
        refine j_iload_n (p2 := 110) dM_back_109 rfl rfl ?_
        refine j_dald (p2 := 111) dM_back_110 rfl ly_99 (by decide) (by omega) (by omega) ?_
        refine j_dastk (p2 := 112) dM_back_111 rfl ly_89 (by decide) (by omega) (by omega) ?_
        refine j_iinc (p2 := 115) (lv' := [(0, _), (1, _)]) dM_back_112 rfl (Nat.le_of_ble_eq_true rfl) rfl ⟨rfl, rfl, trivial⟩ ?_
        refine j_goto (p2 := 10) dM_back_115 (by decide) ?_
        refine J.loc (lv' := [(0, _), (1, _)]) ⟨rfl, rfl, trivial⟩ ?_
        exact (ih2 (by omega)).hp yes
  refine j_aload_n (p2 := 1) dM_back_0 rfl rfl ?_
  refine j_aload_n (p2 := 2) dM_back_1 rfl rfl ?_
  refine j_getIk (p2 := 5) dM_back_2 rfl fa_M_362 ly_69 rfl (ki := 58) rfl ?_
  refine j_putIk (p2 := 8) dM_back_5 rfl fw_M_322 ly_69 rfl (ki := 12) rfl ?_
  refine j_iconst (p2 := 9) dM_back_8 rfl ?_
  refine j_istore_n (p2 := 10) (lv' := [(0, _), (1, _)]) dM_back_9 rfl (Nat.le_of_ble_eq_true rfl) ⟨rfl, rfl, trivial⟩ ?_
  refine J.loc (lv' := [(0, _), (1, _)]) ⟨rfl, rfl, trivial⟩ ?_
  exact (first _ hQ 21 0 (by omega) (by omega)).hp bkY_0
end REF18
