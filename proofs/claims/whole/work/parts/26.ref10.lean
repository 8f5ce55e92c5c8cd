/-! ===== a step of the reference: its pieces ===== -/
abbrev WfX (σ : Hp) (m : Int) : Prop := (hI σ 70 m = 3 → ¬ hI σ 72 (6 * m + 0) = -1 ∧ ¬ hI σ 72 (6 * m + 1) = -1) ∧ (hI σ 70 m = 11 → ¬ hI σ 72 (6 * m + 0) = -1 ∧ 1 ≤ nnR σ m ∧ nnR σ m ≤ 16)
abbrev WS (σ : Hp) (N : Nat) : Prop := RdW σ N ∧ RdG σ [] ∧ ∀ m : Int, 0 ≤ m → m < N → WfX σ m
/-- what tracks and delays get -/
def nxS {α : Type} (A : Ar α) (kd fr tu : Int → Int) (r st old : Int → α) : Int → α := fun m => if kd m = 3 then (if Acm A (gin A fr tu r m 1) (Ac A 0) = some .gt then gin A fr tu r m 0 else st m) else if kd m = 11 then gin A fr tu r m 0 else old m
theorem dn0 : FP.dadd FP.dconst0 FP.dconst0 = FP.dconst0 := by decide +kernel
theorem fn0 : FP.fadd FP.fconst0 FP.fconst0 = FP.fconst0 := by decide +kernel
section REF10
variable {σ : Hp} {Q : Option PV → Hp → Prop}
def pH (σ : Hp) (a : Int → UInt64) (b : Int → UInt32) (c : Int → UInt64) (d : Int → UInt32) : Hp := wF (wD (wF (wD σ 108 a) 112 b) 113 c) 114 d
theorem pH_1 {a a' : Int → UInt64} {b b' : Int → UInt32} {c : Int → UInt64} {d : Int → UInt32} : wF (wD (pH σ a b c d) 108 a') 112 b' = pH σ a' b' c d := by
  unfold pH
  apply hp_ext <;> intro x <;> simp only [hI_wI, hI_wL, hI_wF, hI_wD, hL_wI, hL_wL, hL_wF, hL_wD, hF_wI, hF_wL, hF_wF, hF_wD, hD_wI, hD_wL, hD_wF, hD_wD]
  · by_cases h1 : x = 112 <;> by_cases h2 : x = 114 <;> simp_all
  · by_cases h1 : x = 108 <;> by_cases h2 : x = 113 <;> simp_all
theorem pH_2 {a a' : Int → UInt64} {b b' : Int → UInt32} {c c' : Int → UInt64} {d d' : Int → UInt32} : wF (wD (wF (wD (pH σ a b c d) 108 a') 112 b') 113 c') 114 d' = pH σ a' b' c' d' := by
  unfold pH
  apply hp_ext <;> intro x <;> simp only [hI_wI, hI_wL, hI_wF, hI_wD, hL_wI, hL_wL, hL_wF, hL_wD, hF_wI, hF_wL, hF_wF, hF_wD, hD_wI, hD_wL, hD_wF, hD_wD]
  · by_cases h1 : x = 112 <;> by_cases h2 : x = 114 <;> simp_all
  · by_cases h1 : x = 108 <;> by_cases h2 : x = 113 <;> simp_all
def p1H (σ : Hp) (N : Nat) : Hp := pH σ (pw (hD σ 108) (hD σ 80) N) (pw (hF σ 112) (hF σ 81) N) (pw (hD σ 113) (nxS arD (hI σ 70) (hI σ 72) (hI σ 73) (hD σ 82) (hD σ 80) (hD σ 113)) N) (pw (hF σ 114) (nxS arF (hI σ 70) (hI σ 72) (hI σ 73) (hF σ 83) (hF σ 81) (hF σ 114)) N)
theorem p1H_0 : p1H σ 0 = σ := by
  unfold p1H pH
  rw [pw_0, pw_0, pw_0, pw_0, wD_id]
  rw [show wF σ 112 (hF σ 112) = σ from wF_id σ 112, wD_id, wF_id]
theorem nxS_3D (kd fr tu : Int → Int) (r st old : Int → UInt64) {m : Int} (h : kd m = 3) : nxS arD kd fr tu r st old m = if FP.dcmp (gin arD fr tu r m 1) FP.dconst0 = some .gt then gin arD fr tu r m 0 else st m := if_pos h
theorem nxS_11D (kd fr tu : Int → Int) (r st old : Int → UInt64) {m : Int} (h : kd m = 11) : nxS arD kd fr tu r st old m = gin arD fr tu r m 0 := by unfold nxS; rw [if_neg (by omega), if_pos h]
theorem nxS_nD (kd fr tu : Int → Int) (r st old : Int → UInt64) {m : Int} (h : ¬ kd m = 3) (h2 : ¬ kd m = 11) : nxS arD kd fr tu r st old m = old m := by unfold nxS; rw [if_neg h, if_neg h2]
theorem nxS_3F (kd fr tu : Int → Int) (r st old : Int → UInt32) {m : Int} (h : kd m = 3) : nxS arF kd fr tu r st old m = if FP.fcmp (gin arF fr tu r m 1) FP.fconst0 = some .gt then gin arF fr tu r m 0 else st m := if_pos h
theorem nxS_11F (kd fr tu : Int → Int) (r st old : Int → UInt32) {m : Int} (h : kd m = 11) : nxS arF kd fr tu r st old m = gin arF fr tu r m 0 := by unfold nxS; rw [if_neg (by omega), if_pos h]
theorem nxS_nF (kd fr tu : Int → Int) (r st old : Int → UInt32) {m : Int} (h : ¬ kd m = 3) (h2 : ¬ kd m = 11) : nxS arF kd fr tu r st old m = old m := by unfold nxS; rw [if_neg h, if_neg h2]
theorem st_A {N : Nat} (hw : WS σ N) (k : J mM_step 157 [(0, vR 69), (1, vD (hD σ 69 45))] [] (p1H σ N) Q) : Sp mM_step [vR 69] σ Q := by
  obtain ⟨⟨hN, hN2, hwf, hlv, hlt, hst, hrw⟩, hL0, hwx⟩ := hw
  have loop : ∀ (n i : Nat), i ≤ N → N + 1 ≤ i + n → J mM_step 7 [(0, vR 69), (1, vD (hD σ 69 45)), (3, vI i)] [] (p1H σ i) Q := by
    intro n
    induction n with
    | zero => intro i h1 h2; exact absurd h2 (by omega)
    | succ n ih =>
      intro i h1 h2
      have eN : hI (p1H σ i) 69 0 = N := hN
      have eK : hI (p1H σ i) 70 = hI σ 70 := rfl
      have hci : i < N → WfR σ i ∧ WfX σ i := fun h => ⟨hwf i (by omega) (by omega), hwx i (by omega) (by omega)⟩
      have ih2 : i < N → J mM_step 7 [(0, vR 69), (1, vD (hD σ 69 45)), (3, vI (i + 1))] [] (p1H σ (i + 1)) Q := fun h => ih (i + 1) (by omega) (by omega)
      have yes : ∀ x y, nxS arD (hI σ 70) (hI σ 72) (hI σ 73) (hD σ 82) (hD σ 80) (hD σ 113) i = x → nxS arF (hI σ 70) (hI σ 72) (hI σ 73) (hF σ 83) (hF σ 81) (hF σ 114) i = y →
          p1H σ (i + 1) = wF (wD (wF (wD (p1H σ i) 108 (fup (hD (p1H σ i) 108) i (hD σ 80 i))) 112 (fup (hF (p1H σ i) 112) i (hF σ 81 i))) 113 (fup (hD (p1H σ i) 113) i x)) 114 (fup (hF (p1H σ i) 114) i y) := fun x y hx hy => by
        unfold p1H
        rw [pH_2, ← pw_s, ← pw_s, ← pw_s, ← pw_s, hx, hy]
        rfl
      have non : ¬ hI σ 70 i = 3 → ¬ hI σ 70 i = 11 → p1H σ (i + 1) = wF (wD (p1H σ i) 108 (fup (hD (p1H σ i) 108) i (hD σ 80 i))) 112 (fup (hF (p1H σ i) 112) i (hF σ 81 i)) := fun h3 h11 => by
        unfold p1H
        rw [pH_1, ← pw_s, ← pw_s, ← pw_k (f := hD σ 113) (nxS_nD _ _ _ _ _ _ h3 h11), ← pw_k (f := hF σ 114) (nxS_nF _ _ _ _ _ _ h3 h11)]
        rfl
      refine j_iload_n (p2 := 8) dM_step_7 rfl rfl ?_
      refine j_aload_n (p2 := 9) dM_step_8 rfl rfl ?_
      refine j_getIk (p2 := 12) dM_step_9 rfl fa_M_158 ly_69 rfl (ki := 0) rfl ?_
      refine j_icmp_ge (p2 := 15) (tg := 157) dM_step_12 rfl (by decide) (by constructor <;> omega) (by rw [eN]; constructor <;> omega) (fun h12 => ?_) (fun h12 => ?_)
      · refine J.loc (lv' := [(0, _), (1, _)]) ⟨rfl, rfl, trivial⟩ ?_
        rw [eN] at h12
        have e : i = N := by omega
        subst e
        exact k
      · refine j_aload_n (p2 := 16) dM_step_15 rfl rfl ?_
        refine j_getR (p2 := 19) dM_step_16 rfl fa_M_131 ly_69 rfl ?_
        refine j_iload_n (p2 := 20) dM_step_19 rfl rfl ?_
        refine j_aload_n (p2 := 21) dM_step_20 rfl rfl ?_
        refine j_getR (p2 := 24) dM_step_21 rfl fa_M_46 ly_69 rfl ?_
        refine j_iload_n (p2 := 25) dM_step_24 rfl rfl ?_
        refine j_dald (p2 := 26) dM_step_25 rfl ly_80 (by decide) (by omega) (by rw [eN] at h12; omega) ?_
        refine j_dastk (p2 := 27) dM_step_26 rfl ly_108 (by decide) (by omega) (by rw [eN] at h12; omega) ?_
        refine j_aload_n (p2 := 28) dM_step_27 rfl rfl ?_
        refine j_getR (p2 := 31) dM_step_28 rfl fa_M_143 ly_69 rfl ?_
        refine j_iload_n (p2 := 32) dM_step_31 rfl rfl ?_
        refine j_aload_n (p2 := 33) dM_step_32 rfl rfl ?_
        refine j_getR (p2 := 36) dM_step_33 rfl fa_M_49 ly_69 rfl ?_
        refine j_iload_n (p2 := 37) dM_step_36 rfl rfl ?_
        refine j_fald (p2 := 38) dM_step_37 rfl ly_81 (by decide) (by omega) (by rw [eN] at h12; omega) ?_
        refine j_fastk (p2 := 39) dM_step_38 rfl ly_112 (by decide) (by omega) (by rw [eN] at h12; omega) ?_
        refine j_aload_n (p2 := 40) dM_step_39 rfl rfl ?_
        refine j_getR (p2 := 43) dM_step_40 rfl fa_M_7 ly_69 rfl ?_
        refine j_iload_n (p2 := 44) dM_step_43 rfl rfl ?_
        refine j_iald (p2 := 45) dM_step_44 rfl ly_70 (by decide) (by omega) (by rw [eN] at h12; omega) ?_
        refine j_iconst (p2 := 46) dM_step_45 rfl ?_
        refine j_icmp_ne (p2 := 49) (tg := 116) dM_step_46 rfl (by decide) (by rw [eN] at h12; show inR (hI σ 70 i); have := (hci (by omega)).1.2.2.1; constructor <;> omega) (by constructor <;> omega) (fun h46 => ?_) (fun h46 => ?_)
        · refine J.loc (lv' := [(0, _), (1, _), (3, _)]) ⟨rfl, rfl, rfl, trivial⟩ ?_
          rw [eN] at h12
          have h46 : ¬ hI σ 70 i = 3 := h46
          obtain ⟨⟨g1, g2, g3⟩, g4, g5⟩ := hci (by omega)
          have g30 := g3.1
          have c0 := g2 0 (by omega) (by omega)
          refine j_aload_n (p2 := 117) dM_step_116 rfl rfl ?_
          refine j_getR (p2 := 120) dM_step_117 rfl fa_M_7 ly_69 rfl ?_
          refine j_iload_n (p2 := 121) dM_step_120 rfl rfl ?_
          refine j_iald (p2 := 122) dM_step_121 rfl ly_70 (by decide) (by omega) (by omega) ?_
          refine j_bipush (v := 11) (p2 := 124) dM_step_122 rfl rfl ?_
          refine j_icmp_ne (p2 := 127) (tg := 151) dM_step_124 rfl (by decide) (by show inR (hI σ 70 i); constructor <;> omega) (by constructor <;> omega) (fun h124 => ?_) (fun h124 => ?_)
          · refine j_iinc (p2 := 154) (lv' := [(0, _), (1, _), (3, _)]) dM_step_151 rfl (Nat.le_of_ble_eq_true rfl) rfl ⟨rfl, rfl, rfl, trivial⟩ ?_
            refine j_goto (p2 := 7) dM_step_154 (by decide) ?_
            refine J.loc (lv' := [(0, _), (1, _), (3, _)]) ⟨rfl, rfl, rfl, trivial⟩ ?_
            first
              | exact (ih2 (by omega)).hp (non h46 h124)
              | exact (ih2 (by omega)).hp (yes _ _ (nxS_11D _ _ _ _ _ _ (by omega)) (nxS_11F _ _ _ _ _ _ (by omega)))
          · refine j_aload_n (p2 := 128) dM_step_127 rfl rfl ?_
            refine j_getR (p2 := 131) dM_step_128 rfl fa_M_146 ly_69 rfl ?_
            refine j_iload_n (p2 := 132) dM_step_131 rfl rfl ?_
            refine j_aload_n (p2 := 133) dM_step_132 rfl rfl ?_
            refine j_iload_n (p2 := 134) dM_step_133 rfl rfl ?_
            refine j_iconst (p2 := 135) dM_step_134 rfl ?_
            refine j_callV (m' := mM_input) (As := [_, _]) (p2 := 138) dM_step_135 rfl ml_M_242 ok_mM_input im_mM_input se_mM_input rfl rfl (Nat.le_of_ble_eq_true rfl) ly_69 rfl (Nat.le_of_ble_eq_true rfl) ⟨(Nat.le_of_ble_eq_true rfl), (Nat.le_of_ble_eq_true rfl)⟩ ?_
            have h124 : hI σ 70 i = 11 := h124
            have q0 := g5 (by omega)
            refine cM_input (by omega) (by omega) (show 0 ≤ hI σ 72 (6 * i + 0) ∧ hI σ 72 (6 * i + 0) < 20 by omega) (show inR (hI σ 73 (6 * i + 0)) by constructor <;> omega) ?_
            refine j_dastk (p2 := 139) dM_step_138 rfl ly_113 (by decide) (by omega) (by omega) ?_
            refine j_aload_n (p2 := 140) dM_step_139 rfl rfl ?_
            refine j_getR (p2 := 143) dM_step_140 rfl fa_M_149 ly_69 rfl ?_
            refine j_iload_n (p2 := 144) dM_step_143 rfl rfl ?_
            refine j_aload_n (p2 := 145) dM_step_144 rfl rfl ?_
            refine j_iload_n (p2 := 146) dM_step_145 rfl rfl ?_
            refine j_iconst (p2 := 147) dM_step_146 rfl ?_
            refine j_callV (m' := mM_inputF) (As := [_, _]) (p2 := 150) dM_step_147 rfl ml_M_246 ok_mM_inputF im_mM_inputF se_mM_inputF rfl rfl (Nat.le_of_ble_eq_true rfl) ly_69 rfl (Nat.le_of_ble_eq_true rfl) ⟨(Nat.le_of_ble_eq_true rfl), (Nat.le_of_ble_eq_true rfl)⟩ ?_
            refine cM_inputF (by omega) (by omega) (show 0 ≤ hI σ 72 (6 * i + 0) ∧ hI σ 72 (6 * i + 0) < 20 by omega) (show inR (hI σ 73 (6 * i + 0)) by constructor <;> omega) ?_
            refine j_fastk (p2 := 151) dM_step_150 rfl ly_114 (by decide) (by omega) (by omega) ?_
            refine j_iinc (p2 := 154) (lv' := [(0, _), (1, _), (3, _)]) dM_step_151 rfl (Nat.le_of_ble_eq_true rfl) rfl ⟨rfl, rfl, rfl, trivial⟩ ?_
            refine j_goto (p2 := 7) dM_step_154 (by decide) ?_
            refine J.loc (lv' := [(0, _), (1, _), (3, _)]) ⟨rfl, rfl, rfl, trivial⟩ ?_
            first
              | exact (ih2 (by omega)).hp (non h46 h124)
              | exact (ih2 (by omega)).hp (yes _ _ (nxS_11D _ _ _ _ _ _ (by omega)) (nxS_11F _ _ _ _ _ _ (by omega)))
        · refine J.loc (lv' := [(0, _), (1, _), (3, _)]) ⟨rfl, rfl, rfl, trivial⟩ ?_
          rw [eN] at h12
          have h46 : hI σ 70 i = 3 := h46
          obtain ⟨⟨g1, g2, g3⟩, g4, g5⟩ := hci (by omega)
          have k3 : hI σ 70 i = 3 := by omega
          have q0 := g4 k3
          have c0 := g2 0 (by omega) (by omega)
          have c1 := g2 1 (by omega) (by omega)
          have yes3 := fun x y hx hy => (ih2 (by omega)).hp (yes x y ((nxS_3D _ _ _ _ _ _ k3).trans hx) ((nxS_3F _ _ _ _ _ _ k3).trans hy))
          refine j_aload_n (p2 := 50) dM_step_49 rfl rfl ?_
          refine j_getR (p2 := 53) dM_step_50 rfl fa_M_146 ly_69 rfl ?_
          refine j_iload_n (p2 := 54) dM_step_53 rfl rfl ?_
          refine j_aload_n (p2 := 55) dM_step_54 rfl rfl ?_
          refine j_iload_n (p2 := 56) dM_step_55 rfl rfl ?_
          refine j_iconst (p2 := 57) dM_step_56 rfl ?_
          refine j_callV (m' := mM_input) (As := [_, _]) (p2 := 60) dM_step_57 rfl ml_M_242 ok_mM_input im_mM_input se_mM_input rfl rfl (Nat.le_of_ble_eq_true rfl) ly_69 rfl (Nat.le_of_ble_eq_true rfl) ⟨(Nat.le_of_ble_eq_true rfl), (Nat.le_of_ble_eq_true rfl)⟩ ?_
          refine cM_input (by omega) (by omega) (show 0 ≤ hI σ 72 (6 * i + 1) ∧ hI σ 72 (6 * i + 1) < 20 by omega) (show inR (hI σ 73 (6 * i + 1)) by constructor <;> omega) ?_
          refine j_dconst0 (p2 := 61) dM_step_60 rfl ?_
          refine j_dcmp_l_le (p1 := 62) (p2 := 65) (tg := 74) dM_step_61 rfl dM_step_62 rfl (by decide) (fun h61 => ?_) (fun h61 => ?_)
          · refine j_aload_n (p2 := 75) dM_step_74 rfl rfl ?_
            refine j_getR (p2 := 78) dM_step_75 rfl fa_M_46 ly_69 rfl ?_
            refine j_iload_n (p2 := 79) dM_step_78 rfl rfl ?_
            refine j_dald (p2 := 80) dM_step_79 rfl ly_80 (by decide) (by omega) (by omega) ?_
            refine j_dastk (p2 := 81) dM_step_80 rfl ly_113 (by decide) (by omega) (by omega) ?_
            refine j_aload_n (p2 := 82) dM_step_81 rfl rfl ?_
            refine j_getR (p2 := 85) dM_step_82 rfl fa_M_149 ly_69 rfl ?_
            refine j_iload_n (p2 := 86) dM_step_85 rfl rfl ?_
            refine j_aload_n (p2 := 87) dM_step_86 rfl rfl ?_
            refine j_iload_n (p2 := 88) dM_step_87 rfl rfl ?_
            refine j_iconst (p2 := 89) dM_step_88 rfl ?_
            refine j_callV (m' := mM_inputF) (As := [_, _]) (p2 := 92) dM_step_89 rfl ml_M_246 ok_mM_inputF im_mM_inputF se_mM_inputF rfl rfl (Nat.le_of_ble_eq_true rfl) ly_69 rfl (Nat.le_of_ble_eq_true rfl) ⟨(Nat.le_of_ble_eq_true rfl), (Nat.le_of_ble_eq_true rfl)⟩ ?_
            refine cM_inputF (by omega) (by omega) (show 0 ≤ hI σ 72 (6 * i + 1) ∧ hI σ 72 (6 * i + 1) < 20 by omega) (show inR (hI σ 73 (6 * i + 1)) by constructor <;> omega) ?_
            refine j_fconst0 (p2 := 93) dM_step_92 rfl ?_
            refine j_fcmp_l_le (p1 := 94) (p2 := 97) (tg := 106) dM_step_93 rfl dM_step_94 rfl (by decide) (fun h93 => ?_) (fun h93 => ?_)
            · refine j_aload_n (p2 := 107) dM_step_106 rfl rfl ?_
              refine j_getR (p2 := 110) dM_step_107 rfl fa_M_49 ly_69 rfl ?_
              refine j_iload_n (p2 := 111) dM_step_110 rfl rfl ?_
              refine j_fald (p2 := 112) dM_step_111 rfl ly_81 (by decide) (by omega) (by omega) ?_
              refine j_fastk (p2 := 113) dM_step_112 rfl ly_114 (by decide) (by omega) (by omega) ?_
              refine j_goto (p2 := 151) dM_step_113 (by decide) ?_
              refine j_iinc (p2 := 154) (lv' := [(0, _), (1, _), (3, _)]) dM_step_151 rfl (Nat.le_of_ble_eq_true rfl) rfl ⟨rfl, rfl, rfl, trivial⟩ ?_
              refine j_goto (p2 := 7) dM_step_154 (by decide) ?_
              refine J.loc (lv' := [(0, _), (1, _), (3, _)]) ⟨rfl, rfl, rfl, trivial⟩ ?_
              first
                | exact yes3 _ _ (if_pos h61) (if_pos h93)
                | exact yes3 _ _ (if_pos h61) (if_neg h93)
                | exact yes3 _ _ (if_neg h61) (if_pos h93)
                | exact yes3 _ _ (if_neg h61) (if_neg h93)
            · refine j_aload_n (p2 := 98) dM_step_97 rfl rfl ?_
              refine j_iload_n (p2 := 99) dM_step_98 rfl rfl ?_
              refine j_iconst (p2 := 100) dM_step_99 rfl ?_
              refine j_callV (m' := mM_inputF) (As := [_, _]) (p2 := 103) dM_step_100 rfl ml_M_246 ok_mM_inputF im_mM_inputF se_mM_inputF rfl rfl (Nat.le_of_ble_eq_true rfl) ly_69 rfl (Nat.le_of_ble_eq_true rfl) ⟨(Nat.le_of_ble_eq_true rfl), (Nat.le_of_ble_eq_true rfl)⟩ ?_
              refine cM_inputF (by omega) (by omega) (show 0 ≤ hI σ 72 (6 * i + 0) ∧ hI σ 72 (6 * i + 0) < 20 by omega) (show inR (hI σ 73 (6 * i + 0)) by constructor <;> omega) ?_
              refine j_goto (p2 := 112) dM_step_103 (by decide) ?_
              refine j_fastk (p2 := 113) dM_step_112 rfl ly_114 (by decide) (by omega) (by omega) ?_
              refine j_goto (p2 := 151) dM_step_113 (by decide) ?_
              refine j_iinc (p2 := 154) (lv' := [(0, _), (1, _), (3, _)]) dM_step_151 rfl (Nat.le_of_ble_eq_true rfl) rfl ⟨rfl, rfl, rfl, trivial⟩ ?_
              refine j_goto (p2 := 7) dM_step_154 (by decide) ?_
              refine J.loc (lv' := [(0, _), (1, _), (3, _)]) ⟨rfl, rfl, rfl, trivial⟩ ?_
              first
                | exact yes3 _ _ (if_pos h61) (if_pos h93)
                | exact yes3 _ _ (if_pos h61) (if_neg h93)
                | exact yes3 _ _ (if_neg h61) (if_pos h93)
                | exact yes3 _ _ (if_neg h61) (if_neg h93)
          · refine j_aload_n (p2 := 66) dM_step_65 rfl rfl ?_
            refine j_iload_n (p2 := 67) dM_step_66 rfl rfl ?_
            refine j_iconst (p2 := 68) dM_step_67 rfl ?_
            refine j_callV (m' := mM_input) (As := [_, _]) (p2 := 71) dM_step_68 rfl ml_M_242 ok_mM_input im_mM_input se_mM_input rfl rfl (Nat.le_of_ble_eq_true rfl) ly_69 rfl (Nat.le_of_ble_eq_true rfl) ⟨(Nat.le_of_ble_eq_true rfl), (Nat.le_of_ble_eq_true rfl)⟩ ?_
            refine cM_input (by omega) (by omega) (show 0 ≤ hI σ 72 (6 * i + 0) ∧ hI σ 72 (6 * i + 0) < 20 by omega) (show inR (hI σ 73 (6 * i + 0)) by constructor <;> omega) ?_
            refine j_goto (p2 := 80) dM_step_71 (by decide) ?_
            refine j_dastk (p2 := 81) dM_step_80 rfl ly_113 (by decide) (by omega) (by omega) ?_
            refine j_aload_n (p2 := 82) dM_step_81 rfl rfl ?_
            refine j_getR (p2 := 85) dM_step_82 rfl fa_M_149 ly_69 rfl ?_
            refine j_iload_n (p2 := 86) dM_step_85 rfl rfl ?_
            refine j_aload_n (p2 := 87) dM_step_86 rfl rfl ?_
            refine j_iload_n (p2 := 88) dM_step_87 rfl rfl ?_
            refine j_iconst (p2 := 89) dM_step_88 rfl ?_
            refine j_callV (m' := mM_inputF) (As := [_, _]) (p2 := 92) dM_step_89 rfl ml_M_246 ok_mM_inputF im_mM_inputF se_mM_inputF rfl rfl (Nat.le_of_ble_eq_true rfl) ly_69 rfl (Nat.le_of_ble_eq_true rfl) ⟨(Nat.le_of_ble_eq_true rfl), (Nat.le_of_ble_eq_true rfl)⟩ ?_
            refine cM_inputF (by omega) (by omega) (show 0 ≤ hI σ 72 (6 * i + 1) ∧ hI σ 72 (6 * i + 1) < 20 by omega) (show inR (hI σ 73 (6 * i + 1)) by constructor <;> omega) ?_
            refine j_fconst0 (p2 := 93) dM_step_92 rfl ?_
            refine j_fcmp_l_le (p1 := 94) (p2 := 97) (tg := 106) dM_step_93 rfl dM_step_94 rfl (by decide) (fun h93 => ?_) (fun h93 => ?_)
            · refine j_aload_n (p2 := 107) dM_step_106 rfl rfl ?_
              refine j_getR (p2 := 110) dM_step_107 rfl fa_M_49 ly_69 rfl ?_
              refine j_iload_n (p2 := 111) dM_step_110 rfl rfl ?_
              refine j_fald (p2 := 112) dM_step_111 rfl ly_81 (by decide) (by omega) (by omega) ?_
              refine j_fastk (p2 := 113) dM_step_112 rfl ly_114 (by decide) (by omega) (by omega) ?_
              refine j_goto (p2 := 151) dM_step_113 (by decide) ?_
              refine j_iinc (p2 := 154) (lv' := [(0, _), (1, _), (3, _)]) dM_step_151 rfl (Nat.le_of_ble_eq_true rfl) rfl ⟨rfl, rfl, rfl, trivial⟩ ?_
              refine j_goto (p2 := 7) dM_step_154 (by decide) ?_
              refine J.loc (lv' := [(0, _), (1, _), (3, _)]) ⟨rfl, rfl, rfl, trivial⟩ ?_
              first
                | exact yes3 _ _ (if_pos h61) (if_pos h93)
                | exact yes3 _ _ (if_pos h61) (if_neg h93)
                | exact yes3 _ _ (if_neg h61) (if_pos h93)
                | exact yes3 _ _ (if_neg h61) (if_neg h93)
            · refine j_aload_n (p2 := 98) dM_step_97 rfl rfl ?_
              refine j_iload_n (p2 := 99) dM_step_98 rfl rfl ?_
              refine j_iconst (p2 := 100) dM_step_99 rfl ?_
              refine j_callV (m' := mM_inputF) (As := [_, _]) (p2 := 103) dM_step_100 rfl ml_M_246 ok_mM_inputF im_mM_inputF se_mM_inputF rfl rfl (Nat.le_of_ble_eq_true rfl) ly_69 rfl (Nat.le_of_ble_eq_true rfl) ⟨(Nat.le_of_ble_eq_true rfl), (Nat.le_of_ble_eq_true rfl)⟩ ?_
              refine cM_inputF (by omega) (by omega) (show 0 ≤ hI σ 72 (6 * i + 0) ∧ hI σ 72 (6 * i + 0) < 20 by omega) (show inR (hI σ 73 (6 * i + 0)) by constructor <;> omega) ?_
              refine j_goto (p2 := 112) dM_step_103 (by decide) ?_
              refine j_fastk (p2 := 113) dM_step_112 rfl ly_114 (by decide) (by omega) (by omega) ?_
              refine j_goto (p2 := 151) dM_step_113 (by decide) ?_
              refine j_iinc (p2 := 154) (lv' := [(0, _), (1, _), (3, _)]) dM_step_151 rfl (Nat.le_of_ble_eq_true rfl) rfl ⟨rfl, rfl, rfl, trivial⟩ ?_
              refine j_goto (p2 := 7) dM_step_154 (by decide) ?_
              refine J.loc (lv' := [(0, _), (1, _), (3, _)]) ⟨rfl, rfl, rfl, trivial⟩ ?_
              first
                | exact yes3 _ _ (if_pos h61) (if_pos h93)
                | exact yes3 _ _ (if_pos h61) (if_neg h93)
                | exact yes3 _ _ (if_neg h61) (if_pos h93)
                | exact yes3 _ _ (if_neg h61) (if_neg h93)
  refine j_aload_n (p2 := 1) dM_step_0 rfl rfl ?_
  refine j_getDk (p2 := 4) dM_step_1 rfl fa_M_297 ly_69 rfl (ki := 45) rfl ?_
  refine j_dstore_n (p2 := 5) (lv' := [(0, _), (1, _)]) dM_step_4 rfl (Nat.le_of_ble_eq_true rfl) ⟨rfl, rfl, trivial⟩ ?_
  refine j_iconst (p2 := 6) dM_step_5 rfl ?_
  refine j_istore_n (p2 := 7) (lv' := [(0, _), (1, _), (3, _)]) dM_step_6 rfl (Nat.le_of_ble_eq_true rfl) ⟨rfl, rfl, rfl, trivial⟩ ?_
  refine J.loc (lv' := [(0, _), (1, _), (3, _)]) ⟨rfl, rfl, rfl, trivial⟩ ?_
  exact (loop (N + 1) 0 (by omega) (by omega)).hp p1H_0
end REF10
