/-! ===== to START ===== -/
section REF16
variable {σ : Hp} {Q : Option PV → Hp → Prop} {N : Nat}
def bH (σ : Hp) (lm : Int → Int) (ap st : Int → UInt64) (sF : Int → UInt32) (sd : Int → Int) (rw : Int → UInt64) (rF : Int → UInt32) : Hp := wI (wF (wD (wI (wF (wD (wD σ 88 ap) 80 st) 81 sF) 87 lm) 84 rw) 85 rF) 86 sd
theorem bH_1 {lm lm' : Int → Int} {ap st ap' st' : Int → UInt64} {sF sF' : Int → UInt32} {sd sd' : Int → Int} {rw : Int → UInt64} {rF : Int → UInt32} : wI (wF (wD (wD (wI (bH σ lm ap st sF sd rw rF) 87 lm') 88 ap') 80 st') 81 sF') 86 sd' = bH σ lm' ap' st' sF' sd' rw rF := by
  unfold bH
  apply hp_ext <;> intro x <;> simp only [hI_wI, hI_wL, hI_wF, hI_wD, hL_wI, hL_wL, hL_wF, hL_wD, hF_wI, hF_wL, hF_wF, hF_wD, hD_wI, hD_wL, hD_wF, hD_wD]
  · by_cases h1 : x = 87 <;> by_cases h2 : x = 86 <;> simp_all
  · by_cases h1 : x = 81 <;> by_cases h2 : x = 85 <;> simp_all
  · by_cases h1 : x = 80 <;> by_cases h2 : x = 84 <;> by_cases h3 : x = 88 <;> simp_all
theorem bH_2 {lm : Int → Int} {ap st : Int → UInt64} {sF : Int → UInt32} {sd : Int → Int} {rw rw' : Int → UInt64} {rF rF' : Int → UInt32} : wF (wD (bH σ lm ap st sF sd rw rF) 84 rw') 85 rF' = bH σ lm ap st sF sd rw' rF' := by
  unfold bH
  apply hp_ext <;> intro x <;> simp only [hI_wI, hI_wL, hI_wF, hI_wD, hL_wI, hL_wL, hL_wF, hL_wD, hF_wI, hF_wL, hF_wF, hF_wD, hD_wI, hD_wL, hD_wF, hD_wD]
  · by_cases h1 : x = 81 <;> by_cases h2 : x = 85 <;> simp_all
  · by_cases h1 : x = 80 <;> by_cases h2 : x = 84 <;> by_cases h3 : x = 88 <;> simp_all
def sdB (σ : Hp) : Int → Int := fun m => if hI σ 70 m = 13 then (FP.d2i (hD σ 71 m)).toInt else 0
def bbH (σ : Hp) (i r : Nat) : Hp := bH σ (pw (hI σ 87) (fun _ => -1) i) (pw (hD σ 88) (fun _ => FP.dconst0) i) (pw (hD σ 80) (hD σ 74) i) (pw (hF σ 81) (xF (hD σ 74)) i) (pw (hI σ 86) (sdB σ) i) (pw (hD σ 84) (fun j => hD σ 74 (j / 16)) r) (pw (hF σ 85) (fun j => xF (hD σ 74) (j / 16)) r)
theorem bbH_0 : bbH σ 0 0 = σ := by
  unfold bbH bH
  rw [pw_0, pw_0, pw_0, pw_0, pw_0, pw_0, pw_0, wD_id, wD_id]
  rw [show wF σ 81 (hF σ 81) = σ from wF_id σ 81, wI_id, wD_id, wF_id, wI_id]
theorem bbH_s {i r : Nat} {x : Int} (hx : sdB σ i = x) : bbH σ (i + 1) r = wI (wF (wD (wD (wI (bbH σ i r) 87 (fup (hI (bbH σ i r) 87) i (-1))) 88 (fup (hD (bbH σ i r) 88) i FP.dconst0)) 80 (fup (hD (bbH σ i r) 80) i (hD σ 74 i))) 81 (fup (hF (bbH σ i r) 81) i (FP.d2f (hD σ 74 i)))) 86 (fup (hI (bbH σ i r) 86) i x) := by
  rw [← hx]
  unfold bbH
  rw [bH_1, ← pw_s, ← pw_s, ← pw_s, ← pw_s, ← pw_s]
  rfl
theorem bbH_r {i k : Nat} {a : Nat} (hk : k < 16) : bbH σ a (16 * i + (k + 1)) = wF (wD (bbH σ a (16 * i + k)) 84 (fup (hD (bbH σ a (16 * i + k)) 84) (16 * i + k) (hD σ 74 i))) 85 (fup (hF (bbH σ a (16 * i + k)) 85) (16 * i + k) (FP.d2f (hD σ 74 i))) := by
  have e1 := pw_s (hD σ 84) (fun j => hD σ 74 (j / 16)) (16 * i + k)
  have e2 := pw_s (hF σ 85) (fun j => xF (hD σ 74) (j / 16)) (16 * i + k)
  have e3 : ((16 * i + k : Nat) : Int) = 16 * (i : Int) + k := by omega
  have e4 : (16 * (i : Int) + k) / 16 = i := by omega
  rw [e3] at e1 e2
  simp only [e4] at e1 e2
  unfold bbH
  rw [bH_2, show 16 * i + (k + 1) = 16 * i + k + 1 from rfl, ← e1, ← e2]
  rfl
theorem bg_loop (hN : hI σ 69 0 = N ∧ N ≤ 20) (hk : ∀ m : Int, 0 ≤ m → m < N → inR (hI σ 70 m) ∧ vf_n64 (hD σ 74 m)) (kk : J mM_beginAll 146 [(0, vR 69)] [] (bbH σ N (16 * N)) Q) : J mM_beginAll 16 [(0, vR 69), (1, vI 0)] [] σ Q := by
  obtain ⟨hN, hN2⟩ := hN
  have loop : ∀ (n i : Nat), i ≤ N → N + 1 ≤ i + n → J mM_beginAll 16 [(0, vR 69), (1, vI i)] [] (bbH σ i (16 * i)) Q := by
    intro n
    induction n with
    | zero => intro i h1 h2; exact absurd h2 (by omega)
    | succ n ih =>
      intro i h1 h2
      have eN : hI (bbH σ i (16 * i)) 69 0 = N := hN
      have hki : i < N → inR (hI σ 70 i) ∧ vf_n64 (hD σ 74 i) := fun h => hk i (by omega) (by omega)
      have ih2 : i < N → J mM_beginAll 16 [(0, vR 69), (1, vI (i + 1))] [] (bbH σ (i + 1) (16 * i + 16)) Q := fun h => ih (i + 1) (by omega) (by omega)
      have rows : i < N → ∀ (n2 k : Nat), k ≤ 16 → 17 ≤ k + n2 → J mM_beginAll 93 [(0, vR 69), (1, vI i), (2, vI k)] [] (bbH σ (i + 1) (16 * i + k)) Q := by
        intro hi n2
        have ih3 := ih2 hi
        induction n2 with
        | zero => intro k h3 h4; exact absurd h4 (by omega)
        | succ n2 ih4 =>
          intro k h3 h4
          have o := d2f_nn (hki hi).2
          have ih5 : k < 16 → J mM_beginAll 93 [(0, vR 69), (1, vI i), (2, vI (k + 1))] [] (bbH σ (i + 1) (16 * i + (k + 1))) Q := fun h => ih4 (k + 1) (by omega) (by omega)
          refine j_iload_n (p2 := 94) dM_beginAll_93 rfl rfl ?_
          refine j_bipush (v := 16) (p2 := 96) dM_beginAll_94 rfl rfl ?_
          refine j_icmp_ge (p2 := 99) (tg := 140) dM_beginAll_96 rfl (by decide) (by constructor <;> omega) (by constructor <;> omega) (fun h96 => ?_) (fun h96 => ?_)
          · refine j_iinc (p2 := 143) (lv' := [(0, _), (1, _)]) dM_beginAll_140 rfl (Nat.le_of_ble_eq_true rfl) rfl ⟨rfl, rfl, trivial⟩ ?_
            refine j_goto (p2 := 16) dM_beginAll_143 (by decide) ?_
            refine J.loc (lv' := [(0, _), (1, _)]) ⟨rfl, rfl, trivial⟩ ?_
            have e : k = 16 := by omega
            subst e
            exact ih3
          · refine j_aload_n (p2 := 100) dM_beginAll_99 rfl rfl ?_
            refine j_getR (p2 := 103) dM_beginAll_100 rfl fa_M_59 ly_69 rfl ?_
            refine j_bipush (v := 16) (p2 := 105) dM_beginAll_103 rfl rfl ?_
            refine j_iload_n (p2 := 106) dM_beginAll_105 rfl rfl ?_
            refine j_imul (p2 := 107) dM_beginAll_106 rfl ?_
            refine j_iload_n (p2 := 108) dM_beginAll_107 rfl rfl ?_
            refine j_iadd (p2 := 109) dM_beginAll_108 rfl ?_
            refine j_aload_n (p2 := 110) dM_beginAll_109 rfl rfl ?_
            refine j_getR (p2 := 113) dM_beginAll_110 rfl fa_M_24 ly_69 rfl ?_
            refine j_iload_n (p2 := 114) dM_beginAll_113 rfl rfl ?_
            refine j_dald (p2 := 115) dM_beginAll_114 rfl ly_74 (by decide) (by omega) (by omega) ?_
            refine j_dastk (p2 := 116) dM_beginAll_115 rfl ly_84 (by decide) (by omega) (by omega) ?_
            refine j_aload_n (p2 := 117) dM_beginAll_116 rfl rfl ?_
            refine j_getR (p2 := 120) dM_beginAll_117 rfl fa_M_62 ly_69 rfl ?_
            refine j_bipush (v := 16) (p2 := 122) dM_beginAll_120 rfl rfl ?_
            refine j_iload_n (p2 := 123) dM_beginAll_122 rfl rfl ?_
            refine j_imul (p2 := 124) dM_beginAll_123 rfl ?_
            refine j_iload_n (p2 := 125) dM_beginAll_124 rfl rfl ?_
            refine j_iadd (p2 := 126) dM_beginAll_125 rfl ?_
            refine j_aload_n (p2 := 127) dM_beginAll_126 rfl rfl ?_
            refine j_getR (p2 := 130) dM_beginAll_127 rfl fa_M_24 ly_69 rfl ?_
            refine j_iload_n (p2 := 131) dM_beginAll_130 rfl rfl ?_
            refine j_dald (p2 := 132) dM_beginAll_131 rfl ly_74 (by decide) (by omega) (by omega) ?_
            refine j_d2f (p2 := 133) dM_beginAll_132 rfl (by exact o) ?_
            refine j_fastk (p2 := 134) dM_beginAll_133 rfl ly_85 (by decide) (by omega) (by omega) ?_
            refine j_iinc (p2 := 137) (lv' := [(0, _), (1, _), (2, _)]) dM_beginAll_134 rfl (Nat.le_of_ble_eq_true rfl) rfl ⟨rfl, rfl, rfl, trivial⟩ ?_
            refine j_goto (p2 := 93) dM_beginAll_137 (by decide) ?_
            refine J.loc (lv' := [(0, _), (1, _), (2, _)]) ⟨rfl, rfl, rfl, trivial⟩ ?_
            exact (ih5 (by omega)).hp (bbH_r (by omega))
      refine j_iload_n (p2 := 17) dM_beginAll_16 rfl rfl ?_
      refine j_aload_n (p2 := 18) dM_beginAll_17 rfl rfl ?_
      refine j_getIk (p2 := 21) dM_beginAll_18 rfl fa_M_158 ly_69 rfl (ki := 0) rfl ?_
      refine j_icmp_ge (p2 := 24) (tg := 146) dM_beginAll_21 rfl (by decide) (by constructor <;> omega) (by rw [eN]; constructor <;> omega) (fun h21 => ?_) (fun h21 => ?_)
      · refine J.loc (lv' := [(0, _)]) ⟨rfl, trivial⟩ ?_
        rw [eN] at h21
        have e : i = N := by omega
        subst e
        exact kk
      · refine J.loc (lv' := [(0, _), (1, _)]) ⟨rfl, rfl, trivial⟩ ?_
        rw [eN] at h21
        have hb := hki (by omega)
        have o := d2f_nn hb.2
        have rr := rows (by omega) 17 0 (by omega) (by omega)
        refine j_aload_n (p2 := 25) dM_beginAll_24 rfl rfl ?_
        refine j_getR (p2 := 28) dM_beginAll_25 rfl fa_M_68 ly_69 rfl ?_
        refine j_iload_n (p2 := 29) dM_beginAll_28 rfl rfl ?_
        refine j_iconst (p2 := 30) dM_beginAll_29 rfl ?_
        refine j_iastk (p2 := 31) dM_beginAll_30 rfl ly_87 (by decide) (by omega) (by omega) ?_
        refine j_aload_n (p2 := 32) dM_beginAll_31 rfl rfl ?_
        refine j_getR (p2 := 35) dM_beginAll_32 rfl fa_M_71 ly_69 rfl ?_
        refine j_iload_n (p2 := 36) dM_beginAll_35 rfl rfl ?_
        refine j_dconst0 (p2 := 37) dM_beginAll_36 rfl ?_
        refine j_dastk (p2 := 38) dM_beginAll_37 rfl ly_88 (by decide) (by omega) (by omega) ?_
        refine j_aload_n (p2 := 39) dM_beginAll_38 rfl rfl ?_
        refine j_getR (p2 := 42) dM_beginAll_39 rfl fa_M_46 ly_69 rfl ?_
        refine j_iload_n (p2 := 43) dM_beginAll_42 rfl rfl ?_
        refine j_aload_n (p2 := 44) dM_beginAll_43 rfl rfl ?_
        refine j_getR (p2 := 47) dM_beginAll_44 rfl fa_M_24 ly_69 rfl ?_
        refine j_iload_n (p2 := 48) dM_beginAll_47 rfl rfl ?_
        refine j_dald (p2 := 49) dM_beginAll_48 rfl ly_74 (by decide) (by omega) (by omega) ?_
        refine j_dastk (p2 := 50) dM_beginAll_49 rfl ly_80 (by decide) (by omega) (by omega) ?_
        refine j_aload_n (p2 := 51) dM_beginAll_50 rfl rfl ?_
        refine j_getR (p2 := 54) dM_beginAll_51 rfl fa_M_49 ly_69 rfl ?_
        refine j_iload_n (p2 := 55) dM_beginAll_54 rfl rfl ?_
        refine j_aload_n (p2 := 56) dM_beginAll_55 rfl rfl ?_
        refine j_getR (p2 := 59) dM_beginAll_56 rfl fa_M_24 ly_69 rfl ?_
        refine j_iload_n (p2 := 60) dM_beginAll_59 rfl rfl ?_
        refine j_dald (p2 := 61) dM_beginAll_60 rfl ly_74 (by decide) (by omega) (by omega) ?_
        refine j_d2f (p2 := 62) dM_beginAll_61 rfl (by exact o) ?_
        refine j_fastk (p2 := 63) dM_beginAll_62 rfl ly_81 (by decide) (by omega) (by omega) ?_
        refine j_aload_n (p2 := 64) dM_beginAll_63 rfl rfl ?_
        refine j_getR (p2 := 67) dM_beginAll_64 rfl fa_M_65 ly_69 rfl ?_
        refine j_iload_n (p2 := 68) dM_beginAll_67 rfl rfl ?_
        refine j_aload_n (p2 := 69) dM_beginAll_68 rfl rfl ?_
        refine j_getR (p2 := 72) dM_beginAll_69 rfl fa_M_7 ly_69 rfl ?_
        refine j_iload_n (p2 := 73) dM_beginAll_72 rfl rfl ?_
        refine j_iald (p2 := 74) dM_beginAll_73 rfl ly_70 (by decide) (by omega) (by omega) ?_
        refine j_bipush (v := 13) (p2 := 76) dM_beginAll_74 rfl rfl ?_
        refine j_icmp_ne (p2 := 79) (tg := 89) dM_beginAll_76 rfl (by decide) (show inR (hI σ 70 i) from hb.1) (by constructor <;> omega) (fun h76 => ?_) (fun h76 => ?_)
        · refine j_iconst (p2 := 90) dM_beginAll_89 rfl ?_
          refine j_iastk (p2 := 91) dM_beginAll_90 rfl ly_86 (by decide) (by omega) (by omega) ?_
          refine j_iconst (p2 := 92) dM_beginAll_91 rfl ?_
          refine j_istore_n (p2 := 93) (lv' := [(0, _), (1, _), (2, _)]) dM_beginAll_92 rfl (Nat.le_of_ble_eq_true rfl) ⟨rfl, rfl, rfl, trivial⟩ ?_
          refine J.loc (lv' := [(0, _), (1, _), (2, _)]) ⟨rfl, rfl, rfl, trivial⟩ ?_
          first
            | exact rr.hp (bbH_s (if_pos h76))
            | exact rr.hp (bbH_s (if_neg h76))
        · refine j_aload_n (p2 := 80) dM_beginAll_79 rfl rfl ?_
          refine j_getR (p2 := 83) dM_beginAll_80 rfl fa_M_13 ly_69 rfl ?_
          refine j_iload_n (p2 := 84) dM_beginAll_83 rfl rfl ?_
          refine j_dald (p2 := 85) dM_beginAll_84 rfl ly_71 (by decide) (by omega) (by omega) ?_
          refine j_d2i (p2 := 86) dM_beginAll_85 rfl ?_
          refine j_goto (p2 := 90) dM_beginAll_86 (by decide) ?_
          refine j_iastk (p2 := 91) dM_beginAll_90 rfl ly_86 (by decide) (by omega) (by omega) ?_
          refine j_iconst (p2 := 92) dM_beginAll_91 rfl ?_
          refine j_istore_n (p2 := 93) (lv' := [(0, _), (1, _), (2, _)]) dM_beginAll_92 rfl (Nat.le_of_ble_eq_true rfl) ⟨rfl, rfl, rfl, trivial⟩ ?_
          refine J.loc (lv' := [(0, _), (1, _), (2, _)]) ⟨rfl, rfl, rfl, trivial⟩ ?_
          first
            | exact rr.hp (bbH_s (if_pos h76))
            | exact rr.hp (bbH_s (if_neg h76))
  exact (loop (N + 1) 0 (by omega) (by omega)).hp bbH_0
/-- apart and rates at START -/
def arS (σ : Hp) : Int → UInt64 := fun m => if hI σ 70 m = 2 then (gsum arD (hI σ 72) (hI σ 73) (hD σ 82) m 6).1 else FP.dconst0
def eeH (σ : Hp) (N : Nat) : Hp := wD (wD σ 88 (pw (hD σ 88) (fun m => gdf (hD σ 82 m) (hF σ 83 m) (hD σ 88 m)) N)) 89 (pw (hD σ 89) (arS σ) N)
theorem eeH_0 : eeH σ 0 = σ := by unfold eeH; rw [pw_0, pw_0, wD_id, wD_id]
theorem ee_step {a b c d : Int → UInt64} : wD (wD (wD (wD σ 88 a) 89 b) 88 c) 89 d = wD (wD σ 88 c) 89 d := by
  apply hp_ext <;> intro x <;> simp only [hI_wI, hI_wL, hI_wF, hI_wD, hL_wI, hL_wL, hL_wF, hL_wD, hF_wI, hF_wL, hF_wF, hF_wD, hD_wI, hD_wL, hD_wF, hD_wD]
  by_cases h1 : x = 88 <;> by_cases h2 : x = 89 <;> simp_all
theorem bg_end (hN : hI σ 69 0 = N ∧ N ≤ 20) (hc : ∀ m : Int, 0 ≤ m → m < N → CdR σ m ∧ inR (hI σ 70 m)) (hr : ∀ k : Int, 0 ≤ k → k < 20 → mg (hD σ 82 k) 1024 ∧ mf (hF σ 83 k) 128) (hQ : Q none (eeH σ N)) : J mM_beginAll 152 [(0, vR 69), (1, vI 0)] [] σ Q := by
  obtain ⟨hN, hN2⟩ := hN
  have loop : ∀ (n i : Nat), i ≤ N → N + 1 ≤ i + n → J mM_beginAll 152 [(0, vR 69), (1, vI i)] [] (eeH σ i) Q := by
    intro n
    induction n with
    | zero => intro i h1 h2; exact absurd h2 (by omega)
    | succ n ih =>
      intro i h1 h2
      have eN : hI (eeH σ i) 69 0 = N := hN
      have hci : i < N → CdR σ i ∧ inR (hI σ 70 i) := fun h => hc i (by omega) (by omega)
      have ih2 : i < N → J mM_beginAll 152 [(0, vR 69), (1, vI (i + 1))] [] (eeH σ (i + 1)) Q := fun h => ih (i + 1) (by omega) (by omega)
      have eA : hD (eeH σ i) 88 i = hD σ 88 i := pw_at (hD σ 88) (fun m => gdf (hD σ 82 m) (hF σ 83 m) (hD σ 88 m)) i
      have yes : ∀ x, arS σ i = x → eeH σ (i + 1) = wD (wD (eeH σ i) 88 (fup (hD (eeH σ i) 88) i (gdf (hD σ 82 i) (hF σ 83 i) (hD (eeH σ i) 88 i)))) 89 (fup (hD (eeH σ i) 89) i x) := fun x hx => by
        rw [eA, ← hx]
        unfold eeH
        rw [ee_step, ← pw_s, ← pw_s]
        rfl
      refine j_iload_n (p2 := 153) dM_beginAll_152 rfl rfl ?_
      refine j_aload_n (p2 := 154) dM_beginAll_153 rfl rfl ?_
      refine j_getIk (p2 := 157) dM_beginAll_154 rfl fa_M_158 ly_69 rfl (ki := 0) rfl ?_
      refine j_icmp_ge (p2 := 160) (tg := 196) dM_beginAll_157 rfl (by decide) (by constructor <;> omega) (by rw [eN]; constructor <;> omega) (fun h157 => ?_) (fun h157 => ?_)
      · refine j_return dM_beginAll_196 rfl (by rw [eN] at h157; have e : i = N := (by omega); subst e; exact hQ)
      · refine J.loc (lv' := [(0, _), (1, _)]) ⟨rfl, rfl, trivial⟩ ?_
        rw [eN] at h157
        have hb := hci (by omega)
        refine j_aload_n (p2 := 161) dM_beginAll_160 rfl rfl ?_
        refine j_iload_n (p2 := 162) dM_beginAll_161 rfl rfl ?_
        refine j_callV (m' := mM_differ) (As := [_]) (p2 := 165) dM_beginAll_162 rfl ml_M_325 ok_mM_differ im_mM_differ se_mM_differ rfl rfl (Nat.le_of_ble_eq_true rfl) ly_69 rfl (Nat.le_of_ble_eq_true rfl) ⟨(Nat.le_of_ble_eq_true rfl), (Nat.le_of_ble_eq_true rfl)⟩ ?_
        refine cM_differ (σ := eeH σ i) (by omega) (hr i (by omega) (by omega)).1 (hr i (by omega) (by omega)).2 ?_
        refine j_aload_n (p2 := 166) dM_beginAll_165 rfl rfl ?_
        refine j_getR (p2 := 169) dM_beginAll_166 rfl fa_M_74 ly_69 rfl ?_
        refine j_iload_n (p2 := 170) dM_beginAll_169 rfl rfl ?_
        refine j_aload_n (p2 := 171) dM_beginAll_170 rfl rfl ?_
        refine j_getR (p2 := 174) dM_beginAll_171 rfl fa_M_7 ly_69 rfl ?_
        refine j_iload_n (p2 := 175) dM_beginAll_174 rfl rfl ?_
        refine j_iald (p2 := 176) dM_beginAll_175 rfl ly_70 (by decide) (by omega) (by omega) ?_
        refine j_iconst (p2 := 177) dM_beginAll_176 rfl ?_
        refine j_icmp_ne (p2 := 180) (tg := 188) dM_beginAll_177 rfl (by decide) (show inR (hI σ 70 i) from hb.2) (by constructor <;> omega) (fun h177 => ?_) (fun h177 => ?_)
        · refine j_dconst0 (p2 := 189) dM_beginAll_188 rfl ?_
          refine j_dastk (p2 := 190) dM_beginAll_189 rfl ly_89 (by decide) (by omega) (by omega) ?_
          refine j_iinc (p2 := 193) (lv' := [(0, _), (1, _)]) dM_beginAll_190 rfl (Nat.le_of_ble_eq_true rfl) rfl ⟨rfl, rfl, trivial⟩ ?_
          refine j_goto (p2 := 152) dM_beginAll_193 (by decide) ?_
          refine J.loc (lv' := [(0, _), (1, _)]) ⟨rfl, rfl, trivial⟩ ?_
          first
            | exact (ih2 (by omega)).hp (yes _ (if_pos h177))
            | exact (ih2 (by omega)).hp (yes _ (if_neg h177))
        · refine j_aload_n (p2 := 181) dM_beginAll_180 rfl rfl ?_
          refine j_iload_n (p2 := 182) dM_beginAll_181 rfl rfl ?_
          refine j_callV (m' := mM_sum) (As := [_]) (p2 := 185) dM_beginAll_182 rfl ml_M_264 ok_mM_sum im_mM_sum se_mM_sum rfl rfl (Nat.le_of_ble_eq_true rfl) ly_69 rfl (Nat.le_of_ble_eq_true rfl) ⟨(Nat.le_of_ble_eq_true rfl), (Nat.le_of_ble_eq_true rfl)⟩ ?_
          refine cM_sum (by omega) hb.1 (fun k h0 h1 => (hr k h0 h1).1) ?_
          refine j_goto (p2 := 189) dM_beginAll_185 (by decide) ?_
          refine j_dastk (p2 := 190) dM_beginAll_189 rfl ly_89 (by decide) (by omega) (by omega) ?_
          refine j_iinc (p2 := 193) (lv' := [(0, _), (1, _)]) dM_beginAll_190 rfl (Nat.le_of_ble_eq_true rfl) rfl ⟨rfl, rfl, trivial⟩ ?_
          refine j_goto (p2 := 152) dM_beginAll_193 (by decide) ?_
          refine J.loc (lv' := [(0, _), (1, _)]) ⟨rfl, rfl, trivial⟩ ?_
          first
            | exact (ih2 (by omega)).hp (yes _ (if_pos h177))
            | exact (ih2 (by omega)).hp (yes _ (if_neg h177))
  exact (loop (N + 1) 0 (by omega) (by omega)).hp eeH_0
end REF16
