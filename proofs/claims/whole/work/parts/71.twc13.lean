/-! ===== the class's twins: to START ===== -/
section TWC13
variable {σ : Hp} {Q : Option PV → Hp → Prop}
/-- the setting of module m, or the one that is tried -/
def svC (σ : Hp) (c : Int) (v : UInt64) (m : Int) : UInt64 := if m = c then v else hD σ 6 m
def nSd (σ : Hp) (a b w : Int → UInt64) (d o : Int → Int) : Hp := wI (wI (wD (wD (wD σ 23 a) 24 b) 25 w) 27 d) 26 o
theorem nSd_1 {a a' b b' w : Int → UInt64} {d d' o o' : Int → Int} : wI (wI (wD (wD (nSd σ a b w d o) 23 a') 24 b') 27 d') 26 o' = nSd σ a' b' w d' o' := by
  unfold nSd
  apply hp_ext <;> intro x <;> simp only [hI_wI, hI_wL, hI_wF, hI_wD, hL_wI, hL_wL, hL_wF, hL_wD, hF_wI, hF_wL, hF_wF, hF_wD, hD_wI, hD_wL, hD_wF, hD_wD]
  · by_cases h1 : x = 26 <;> by_cases h2 : x = 27 <;> simp_all
  · by_cases h1 : x = 24 <;> by_cases h2 : x = 25 <;> by_cases h3 : x = 23 <;> simp_all
theorem nSd_2 {a b w w' : Int → UInt64} {d o : Int → Int} : wD (nSd σ a b w d o) 25 w' = nSd σ a b w' d o := by
  unfold nSd
  apply hp_ext <;> intro x <;> simp only [hI_wI, hI_wL, hI_wF, hI_wD, hL_wI, hL_wL, hL_wF, hL_wD, hF_wI, hF_wL, hF_wF, hF_wD, hD_wI, hD_wL, hD_wF, hD_wD]
  by_cases h1 : x = 24 <;> by_cases h2 : x = 25 <;> by_cases h3 : x = 23 <;> simp_all
theorem nSd_0 : nSd σ (hD σ 23) (hD σ 24) (hD σ 25) (hI σ 27) (hI σ 26) = σ := by
  unfold nSd
  rw [wD_id, wD_id, wD_id, wI_id, wI_id]
abbrev Nbad (σ : Hp) (c : Int) (v : UInt64) (i : Int) (a b w : Int → UInt64) (d o : Int → Int) : Prop := ∀ m : Int, 0 ≤ m → m < i → a m = rndC false (svC σ c v m) ∧ b m = rndC false (hD σ 8 m) ∧ d m = (FP.d2i (svC σ c v m)).toInt ∧ o m = 0 ∧ ∀ j : Int, 0 ≤ j → j < 16 → w (m * 16 + j) = rndC false (hD σ 8 m)
theorem tsd_loop {N : Nat} {c : Int} {v : UInt64} (hN : hI σ 3 0 = N ∧ N ≤ 20) (hfl : hI σ 21 3 = 0) (hcr : inR c) (hsv : ∀ m : Int, 0 ≤ m → m < N → vf_n64 (svC σ c v m) ∧ vf_n64 (hD σ 8 m)) (hQ : ∀ a b w d o, Nbad σ c v N a b w d o → J mT_toStart 134 [(0, vR 21)] [] (nSd σ a b w d o) Q) : J mT_toStart 3 [(0, vR 21), (1, vI c), (2, vD v), (4, vI 0)] [] σ Q := by
  obtain ⟨hN, hN2⟩ := hN
  have loop : ∀ (n i : Nat), i ≤ N → N + 1 ≤ i + n → ∀ a b w d o, Nbad σ c v i a b w d o → J mT_toStart 3 [(0, vR 21), (1, vI c), (2, vD v), (4, vI i)] [] (nSd σ a b w d o) Q := by
    intro n
    induction n with
    | zero => intro i h1 h2; exact absurd h2 (by omega)
    | succ n ih =>
      intro i h1 h2 a b w d o hna
      obtain ⟨τ, hτ⟩ : ∃ τ, τ = nSd σ a b w d o := ⟨_, rfl⟩
      have eN : hI τ 3 0 = N := by rw [hτ]; exact hN
      have e6 : hD τ 6 = hD σ 6 := by rw [hτ]; rfl
      have e8 : hD τ 8 = hD σ 8 := by rw [hτ]; rfl
      have efl : hI τ 21 3 = 0 := by rw [hτ]; exact hfl
      have ea : hD τ 23 = a := by rw [hτ]; rfl
      have eb : hD τ 24 = b := by rw [hτ]; rfl
      have ed : hI τ 27 = d := by rw [hτ]; rfl
      have eo : hI τ 26 = o := by rw [hτ]; rfl
      have hvi : i < N → vf_n64 (svC σ c v i) ∧ vf_n64 (hD σ 8 i) := fun z => hsv i (by omega) (by omega)
      have inner : i < N → ∀ (n2 q : Nat), q ≤ 16 → 17 ≤ q + n2 → ∀ w', (∀ m : Int, 0 ≤ m → m < i → ∀ j : Int, 0 ≤ j → j < 16 → w' (m * 16 + j) = rndC false (hD σ 8 m)) → (∀ j : Int, 0 ≤ j → j < q → w' ((i : Int) * 16 + j) = rndC false (hD σ 8 i)) → J mT_toStart 96 [(0, vR 21), (1, vI c), (2, vD v), (4, vI i), (7, vI ((i : Int) * 16 + q))] [] (nSd σ (fup a i (rndC false (svC σ c v i))) (fup b i (rndC false (hD σ 8 i))) w' (fup d i (FP.d2i (svC σ c v i)).toInt) (fup o i 0)) Q := by
        intro hi n2
        induction n2 with
        | zero => intro q a1 a2; exact absurd a2 (by omega)
        | succ n2 ih2 =>
          intro q a1 a2 w' hw1 hw2
          obtain ⟨ω, hω⟩ : ∃ ω, ω = nSd σ (fup a i (rndC false (svC σ c v i))) (fup b i (rndC false (hD σ 8 i))) w' (fup d i (FP.d2i (svC σ c v i)).toInt) (fup o i 0) := ⟨_, rfl⟩
          have gb : hD ω 24 i = rndC false (hD σ 8 i) := by rw [hω]; exact fup_s _ _ _
          have gw : hD ω 25 = w' := by rw [hω]; rfl
          have nxt : q < 16 → J mT_toStart 96 [(0, vR 21), (1, vI c), (2, vD v), (4, vI i), (7, vI ((i : Int) * 16 + q + 1))] [] (wD ω 25 (fup (hD ω 25) ((i : Int) * 16 + q) (hD ω 24 i))) Q := fun hq => by
            rw [gb, gw, hω, nSd_2]
            have := ih2 (q + 1) (by omega) (by omega) (fup w' ((i : Int) * 16 + q) (rndC false (hD σ 8 i))) (fun m x y j j0 j1 => by rw [fup_n (by omega)]; exact hw1 m x y j j0 j1) (fun j j0 j1 => by
              by_cases e : j = q
              · rw [e, fup_s]
              · rw [fup_n (by omega)]; exact hw2 j j0 (by omega))
            rw [show (i : Int) * 16 + ((q + 1 : Nat) : Int) = (i : Int) * 16 + q + 1 by omega] at this
            exact this
          have done : q = 16 → J mT_toStart 128 [(0, vR 21), (1, vI c), (2, vD v), (4, vI i)] [] ω Q := fun hq => by
            subst hq
            have := ih (i + 1) (by omega) (by omega) (fup a i (rndC false (svC σ c v i))) (fup b i (rndC false (hD σ 8 i))) w' (fup d i (FP.d2i (svC σ c v i)).toInt) (fup o i 0) (fun m x y => by
              by_cases e : m = i
              · subst e
                rw [fup_s, fup_s, fup_s, fup_s]
                exact ⟨rfl, rfl, rfl, rfl, fun j j0 j1 => hw2 j j0 (by omega)⟩
              · rw [fup_n e, fup_n e, fup_n e, fup_n e]
                obtain ⟨z1, z2, z3, z4, z5⟩ := hna m x (by omega)
                exact ⟨z1, z2, z3, z4, fun j j0 j1 => hw1 m x (by omega) j j0 j1⟩)
            rw [← hω] at this
            refine j_iinc (p2 := 131) (lv' := [(0, _), (1, _), (2, _), (4, _)]) dT_toStart_128 rfl (Nat.le_of_ble_eq_true rfl) rfl ⟨rfl, rfl, rfl, rfl, trivial⟩ ?_
            refine j_goto (p2 := 3) dT_toStart_131 (by decide) ?_
            refine J.loc (lv' := [(0, _), (1, _), (2, _), (4, _)]) ⟨rfl, rfl, rfl, rfl, trivial⟩ ?_
            exact this
          rw [← hω]
          refine j_iload (p2 := 98) dT_toStart_96 rfl rfl ?_
          refine j_iload (p2 := 100) dT_toStart_98 rfl rfl ?_
          refine j_iconst (p2 := 101) dT_toStart_100 rfl ?_
          refine j_iadd (p2 := 102) dT_toStart_101 rfl ?_
          refine j_bipush (v := 16) (p2 := 104) dT_toStart_102 rfl rfl ?_
          refine j_imul (p2 := 105) dT_toStart_104 rfl ?_
          refine j_icmp_ge (p2 := 108) (tg := 128) dT_toStart_105 rfl (by decide) (by constructor <;> omega) (by constructor <;> omega) (fun h105 => ?_) (fun h105 => ?_)
          · refine J.loc (lv' := [(0, _), (1, _), (2, _), (4, _)]) ⟨rfl, rfl, rfl, rfl, trivial⟩ ?_
            exact done (by omega)
          · refine j_aload_n (p2 := 109) dT_toStart_108 rfl rfl ?_
            refine j_getR (p2 := 112) dT_toStart_109 rfl fa_T_21 ly_21 rfl ?_
            refine j_iload (p2 := 114) dT_toStart_112 rfl rfl ?_
            refine j_aload_n (p2 := 115) dT_toStart_114 rfl rfl ?_
            refine j_getR (p2 := 118) dT_toStart_115 rfl fa_T_18 ly_21 rfl ?_
            refine j_iload (p2 := 120) dT_toStart_118 rfl rfl ?_
            refine j_dald (p2 := 121) dT_toStart_120 rfl ly_24 (by decide) (by omega) (by omega) ?_
            refine j_dastk (p2 := 122) dT_toStart_121 rfl ly_25 (by decide) (by omega) (by omega) ?_
            refine j_iinc (p2 := 125) (lv' := [(0, _), (1, _), (2, _), (4, _), (7, _)]) dT_toStart_122 rfl (Nat.le_of_ble_eq_true rfl) rfl ⟨rfl, rfl, rfl, rfl, rfl, trivial⟩ ?_
            refine j_goto (p2 := 96) dT_toStart_125 (by decide) ?_
            refine J.loc (lv' := [(0, _), (1, _), (2, _), (4, _), (7, _)]) ⟨rfl, rfl, rfl, rfl, rfl, trivial⟩ ?_
            exact nxt (by omega)
      clear ih
      have at35 : i < N → ∀ x, x = svC σ c v i → J mT_toStart 35 [(0, vR 21), (1, vI c), (2, vD v), (4, vI i)] [vD x] τ Q := by
        intro hi x hx
        subst hx
        have st := inner hi 17 0 (by omega) (by omega) w (fun m x y => (hna m x y).2.2.2.2) (fun j j0 j1 => absurd j1 (by omega))
        have m1 : wI (wI (wD (wD τ 23 (fup (hD τ 23) i (rndC false (svC σ c v i)))) 24 (fup (hD τ 24) i (rndC false (hD σ 8 i)))) 27 (fup (hI τ 27) i (FP.d2i (svC σ c v i)).toInt)) 26 (fup (hI τ 26) i 0) = nSd σ (fup a i (rndC false (svC σ c v i))) (fup b i (rndC false (hD σ 8 i))) w (fup d i (FP.d2i (svC σ c v i)).toInt) (fup o i 0) := by
          rw [ea, eb, ed, eo, hτ, nSd_1]
        rw [← m1] at st
        have e82 : ∀ y, hD (wD τ 23 y) 8 i = hD σ 8 i := fun y => by show hD τ 8 i = _; rw [e8]
        refine j_dstore (p2 := 37) (lv' := [(0, _), (1, _), (2, _), (4, _), (5, _)]) dT_toStart_35 rfl (Nat.le_of_ble_eq_true rfl) ⟨rfl, rfl, rfl, rfl, rfl, trivial⟩ ?_
        refine j_aload_n (p2 := 38) dT_toStart_37 rfl rfl ?_
        refine j_getR (p2 := 41) dT_toStart_38 rfl fa_T_15 ly_21 rfl ?_
        refine j_iload (p2 := 43) dT_toStart_41 rfl rfl ?_
        refine j_aload_n (p2 := 44) dT_toStart_43 rfl rfl ?_
        refine j_dload (p2 := 46) dT_toStart_44 rfl rfl ?_
        refine j_callV (m' := mT_rounded) (As := [_]) (p2 := 49) dT_toStart_46 rfl ml_T_74 ok_mT_rounded im_mT_rounded se_mT_rounded rfl rfl (Nat.le_of_ble_eq_true rfl) ly_21 rfl (Nat.le_of_ble_eq_true rfl) ⟨(Nat.le_of_ble_eq_true rfl), (Nat.le_of_ble_eq_true rfl)⟩ ?_
        refine cTd_rounded efl (hvi hi).1 ?_
        refine j_dastk (p2 := 50) dT_toStart_49 rfl ly_23 (by decide) (by omega) (by omega) ?_
        refine j_aload_n (p2 := 51) dT_toStart_50 rfl rfl ?_
        refine j_getR (p2 := 54) dT_toStart_51 rfl fa_T_18 ly_21 rfl ?_
        refine j_iload (p2 := 56) dT_toStart_54 rfl rfl ?_
        refine j_aload_n (p2 := 57) dT_toStart_56 rfl rfl ?_
        refine j_aload_n (p2 := 58) dT_toStart_57 rfl rfl ?_
        refine j_getR (p2 := 61) dT_toStart_58 rfl fa_T_49 ly_21 rfl ?_
        refine j_getR (p2 := 64) dT_toStart_61 rfl fa_T_78 ly_3 rfl ?_
        refine j_iload (p2 := 66) dT_toStart_64 rfl rfl ?_
        refine j_dald (p2 := 67) dT_toStart_66 rfl ly_8 (by decide) (by omega) (by omega) ?_
        refine j_callV (m' := mT_rounded) (As := [_]) (p2 := 70) dT_toStart_67 rfl ml_T_74 ok_mT_rounded im_mT_rounded se_mT_rounded rfl rfl (Nat.le_of_ble_eq_true rfl) ly_21 rfl (Nat.le_of_ble_eq_true rfl) ⟨(Nat.le_of_ble_eq_true rfl), (Nat.le_of_ble_eq_true rfl)⟩ ?_
        rw [e82]
        refine cTd_rounded efl (hvi hi).2 ?_
        refine j_dastk (p2 := 71) dT_toStart_70 rfl ly_24 (by decide) (by omega) (by omega) ?_
        refine j_aload_n (p2 := 72) dT_toStart_71 rfl rfl ?_
        refine j_getR (p2 := 75) dT_toStart_72 rfl fa_T_28 ly_21 rfl ?_
        refine j_iload (p2 := 77) dT_toStart_75 rfl rfl ?_
        refine j_dload (p2 := 79) dT_toStart_77 rfl rfl ?_
        refine j_d2i (p2 := 80) dT_toStart_79 rfl ?_
        refine j_iastk (p2 := 81) dT_toStart_80 rfl ly_27 (by decide) (by omega) (by omega) ?_
        refine j_aload_n (p2 := 82) dT_toStart_81 rfl rfl ?_
        refine j_getR (p2 := 85) dT_toStart_82 rfl fa_T_24 ly_21 rfl ?_
        refine j_iload (p2 := 87) dT_toStart_85 rfl rfl ?_
        refine j_iconst (p2 := 88) dT_toStart_87 rfl ?_
        refine j_iastk (p2 := 89) dT_toStart_88 rfl ly_26 (by decide) (by omega) (by omega) ?_
        refine j_iload (p2 := 91) dT_toStart_89 rfl rfl ?_
        refine j_bipush (v := 16) (p2 := 93) dT_toStart_91 rfl rfl ?_
        refine j_imul (p2 := 94) dT_toStart_93 rfl ?_
        refine j_istore (p2 := 96) (lv' := [(0, _), (1, _), (2, _), (4, _), (7, _)]) dT_toStart_94 rfl (Nat.le_of_ble_eq_true rfl) ⟨rfl, rfl, rfl, rfl, rfl, trivial⟩ ?_
        refine J.loc (lv' := [(0, _), (1, _), (2, _), (4, _), (7, _)]) ⟨rfl, rfl, rfl, rfl, rfl, trivial⟩ ?_
        have e0 : (i : Int) * 16 + ((0 : Nat) : Int) = (i : Int) * 16 := Int.add_zero _
        rw [e0] at st
        exact st
      rw [← hτ]
      refine j_iload (p2 := 5) dT_toStart_3 rfl rfl ?_
      refine j_aload_n (p2 := 6) dT_toStart_5 rfl rfl ?_
      refine j_getR (p2 := 9) dT_toStart_6 rfl fa_T_49 ly_21 rfl ?_
      refine j_getIk (p2 := 12) dT_toStart_9 rfl fa_T_65 ly_3 rfl (ki := 0) rfl ?_
      refine j_icmp_ge (p2 := 15) (tg := 134) dT_toStart_12 rfl (by decide) (by constructor <;> omega) (by rw [eN]; constructor <;> omega) (fun h12 => ?_) (fun h12 => ?_)
      · refine J.loc (lv' := [(0, _)]) ⟨rfl, trivial⟩ ?_
        rw [eN] at h12
        have e : i = N := by omega
        subst e
        rw [hτ]
        exact hQ a b w d o hna
      · refine j_iload (p2 := 17) dT_toStart_15 rfl rfl ?_
        refine j_iload_n (p2 := 18) dT_toStart_17 rfl rfl ?_
        refine j_icmp_ne (p2 := 21) (tg := 25) dT_toStart_18 rfl (by decide) (by constructor <;> omega) (by exact hcr) (fun h18 => ?_) (fun h18 => ?_)
        · refine j_aload_n (p2 := 26) dT_toStart_25 rfl rfl ?_
          refine j_getR (p2 := 29) dT_toStart_26 rfl fa_T_49 ly_21 rfl ?_
          refine j_getR (p2 := 32) dT_toStart_29 rfl fa_T_71 ly_3 rfl ?_
          refine j_iload (p2 := 34) dT_toStart_32 rfl rfl ?_
          refine j_dald (p2 := 35) dT_toStart_34 rfl ly_6 (by decide) (by omega) (by rw [eN] at h12; omega) ?_
          refine J.loc (lv' := [(0, _), (1, _), (2, _), (4, _)]) ⟨rfl, rfl, rfl, rfl, trivial⟩ ?_
          rw [eN] at h12
          first
            | (have g : (i : Int) = c := h18
               exact at35 (by omega) _ (by unfold svC; rw [if_pos g]))
            | (have g : ¬ (i : Int) = c := h18
               rw [e6]
               exact at35 (by omega) _ (by unfold svC; rw [if_neg g]))
        · refine j_dload_n (p2 := 22) dT_toStart_21 rfl rfl ?_
          refine j_goto (p2 := 35) dT_toStart_22 (by decide) ?_
          refine J.loc (lv' := [(0, _), (1, _), (2, _), (4, _)]) ⟨rfl, rfl, rfl, rfl, trivial⟩ ?_
          rw [eN] at h12
          first
            | (have g : (i : Int) = c := h18
               exact at35 (by omega) _ (by unfold svC; rw [if_pos g]))
            | (have g : ¬ (i : Int) = c := h18
               rw [e6]
               exact at35 (by omega) _ (by unfold svC; rw [if_neg g]))
  have start := loop (N + 1) 0 (by omega) (by omega) (hD σ 23) (hD σ 24) (hD σ 25) (hI σ 27) (hI σ 26) (fun m x y => absurd y (by omega))
  rw [nSd_0] at start
  exact start
def nSf (σ : Hp) (a b w : Int → UInt64) (d o : Int → Int) : Hp := wI (wI (wD (wD (wD σ 36 a) 37 b) 38 w) 40 d) 39 o
theorem nSf_1 {a a' b b' w : Int → UInt64} {d d' o o' : Int → Int} : wI (wI (wD (wD (nSf σ a b w d o) 36 a') 37 b') 40 d') 39 o' = nSf σ a' b' w d' o' := by
  unfold nSf
  apply hp_ext <;> intro x <;> simp only [hI_wI, hI_wL, hI_wF, hI_wD, hL_wI, hL_wL, hL_wF, hL_wD, hF_wI, hF_wL, hF_wF, hF_wD, hD_wI, hD_wL, hD_wF, hD_wD]
  · by_cases h1 : x = 39 <;> by_cases h2 : x = 40 <;> simp_all
  · by_cases h1 : x = 37 <;> by_cases h2 : x = 38 <;> by_cases h3 : x = 36 <;> simp_all
theorem nSf_2 {a b w w' : Int → UInt64} {d o : Int → Int} : wD (nSf σ a b w d o) 38 w' = nSf σ a b w' d o := by
  unfold nSf
  apply hp_ext <;> intro x <;> simp only [hI_wI, hI_wL, hI_wF, hI_wD, hL_wI, hL_wL, hL_wF, hL_wD, hF_wI, hF_wL, hF_wF, hF_wD, hD_wI, hD_wL, hD_wF, hD_wD]
  by_cases h1 : x = 37 <;> by_cases h2 : x = 38 <;> by_cases h3 : x = 36 <;> simp_all
theorem nSf_0 : nSf σ (hD σ 36) (hD σ 37) (hD σ 38) (hI σ 40) (hI σ 39) = σ := by
  unfold nSf
  rw [wD_id, wD_id, wD_id, wI_id, wI_id]
abbrev Nbaf (σ : Hp) (c : Int) (v : UInt64) (i : Int) (a b w : Int → UInt64) (d o : Int → Int) : Prop := ∀ m : Int, 0 ≤ m → m < i → a m = rndC true (svC σ c v m) ∧ b m = rndC true (hD σ 8 m) ∧ d m = (FP.d2i (svC σ c v m)).toInt ∧ o m = 0 ∧ ∀ j : Int, 0 ≤ j → j < 16 → w (m * 16 + j) = rndC true (hD σ 8 m)
theorem tsf_loop {N : Nat} {c : Int} {v : UInt64} (hN : hI σ 3 0 = N ∧ N ≤ 20) (hfl : hI σ 34 3 = 1) (hcr : inR c) (hsv : ∀ m : Int, 0 ≤ m → m < N → vf_n64 (svC σ c v m) ∧ vf_n64 (hD σ 8 m)) (hQ : ∀ a b w d o, Nbaf σ c v N a b w d o → J mT_toStart 134 [(0, vR 34)] [] (nSf σ a b w d o) Q) : J mT_toStart 3 [(0, vR 34), (1, vI c), (2, vD v), (4, vI 0)] [] σ Q := by
  obtain ⟨hN, hN2⟩ := hN
  have loop : ∀ (n i : Nat), i ≤ N → N + 1 ≤ i + n → ∀ a b w d o, Nbaf σ c v i a b w d o → J mT_toStart 3 [(0, vR 34), (1, vI c), (2, vD v), (4, vI i)] [] (nSf σ a b w d o) Q := by
    intro n
    induction n with
    | zero => intro i h1 h2; exact absurd h2 (by omega)
    | succ n ih =>
      intro i h1 h2 a b w d o hna
      obtain ⟨τ, hτ⟩ : ∃ τ, τ = nSf σ a b w d o := ⟨_, rfl⟩
      have eN : hI τ 3 0 = N := by rw [hτ]; exact hN
      have e6 : hD τ 6 = hD σ 6 := by rw [hτ]; rfl
      have e8 : hD τ 8 = hD σ 8 := by rw [hτ]; rfl
      have efl : hI τ 34 3 = 1 := by rw [hτ]; exact hfl
      have ea : hD τ 36 = a := by rw [hτ]; rfl
      have eb : hD τ 37 = b := by rw [hτ]; rfl
      have ed : hI τ 40 = d := by rw [hτ]; rfl
      have eo : hI τ 39 = o := by rw [hτ]; rfl
      have hvi : i < N → vf_n64 (svC σ c v i) ∧ vf_n64 (hD σ 8 i) := fun z => hsv i (by omega) (by omega)
      have inner : i < N → ∀ (n2 q : Nat), q ≤ 16 → 17 ≤ q + n2 → ∀ w', (∀ m : Int, 0 ≤ m → m < i → ∀ j : Int, 0 ≤ j → j < 16 → w' (m * 16 + j) = rndC true (hD σ 8 m)) → (∀ j : Int, 0 ≤ j → j < q → w' ((i : Int) * 16 + j) = rndC true (hD σ 8 i)) → J mT_toStart 96 [(0, vR 34), (1, vI c), (2, vD v), (4, vI i), (7, vI ((i : Int) * 16 + q))] [] (nSf σ (fup a i (rndC true (svC σ c v i))) (fup b i (rndC true (hD σ 8 i))) w' (fup d i (FP.d2i (svC σ c v i)).toInt) (fup o i 0)) Q := by
        intro hi n2
        induction n2 with
        | zero => intro q a1 a2; exact absurd a2 (by omega)
        | succ n2 ih2 =>
          intro q a1 a2 w' hw1 hw2
          obtain ⟨ω, hω⟩ : ∃ ω, ω = nSf σ (fup a i (rndC true (svC σ c v i))) (fup b i (rndC true (hD σ 8 i))) w' (fup d i (FP.d2i (svC σ c v i)).toInt) (fup o i 0) := ⟨_, rfl⟩
          have gb : hD ω 37 i = rndC true (hD σ 8 i) := by rw [hω]; exact fup_s _ _ _
          have gw : hD ω 38 = w' := by rw [hω]; rfl
          have nxt : q < 16 → J mT_toStart 96 [(0, vR 34), (1, vI c), (2, vD v), (4, vI i), (7, vI ((i : Int) * 16 + q + 1))] [] (wD ω 38 (fup (hD ω 38) ((i : Int) * 16 + q) (hD ω 37 i))) Q := fun hq => by
            rw [gb, gw, hω, nSf_2]
            have := ih2 (q + 1) (by omega) (by omega) (fup w' ((i : Int) * 16 + q) (rndC true (hD σ 8 i))) (fun m x y j j0 j1 => by rw [fup_n (by omega)]; exact hw1 m x y j j0 j1) (fun j j0 j1 => by
              by_cases e : j = q
              · rw [e, fup_s]
              · rw [fup_n (by omega)]; exact hw2 j j0 (by omega))
            rw [show (i : Int) * 16 + ((q + 1 : Nat) : Int) = (i : Int) * 16 + q + 1 by omega] at this
            exact this
          have done : q = 16 → J mT_toStart 128 [(0, vR 34), (1, vI c), (2, vD v), (4, vI i)] [] ω Q := fun hq => by
            subst hq
            have := ih (i + 1) (by omega) (by omega) (fup a i (rndC true (svC σ c v i))) (fup b i (rndC true (hD σ 8 i))) w' (fup d i (FP.d2i (svC σ c v i)).toInt) (fup o i 0) (fun m x y => by
              by_cases e : m = i
              · subst e
                rw [fup_s, fup_s, fup_s, fup_s]
                exact ⟨rfl, rfl, rfl, rfl, fun j j0 j1 => hw2 j j0 (by omega)⟩
              · rw [fup_n e, fup_n e, fup_n e, fup_n e]
                obtain ⟨z1, z2, z3, z4, z5⟩ := hna m x (by omega)
                exact ⟨z1, z2, z3, z4, fun j j0 j1 => hw1 m x (by omega) j j0 j1⟩)
            rw [← hω] at this
            refine j_iinc (p2 := 131) (lv' := [(0, _), (1, _), (2, _), (4, _)]) dT_toStart_128 rfl (Nat.le_of_ble_eq_true rfl) rfl ⟨rfl, rfl, rfl, rfl, trivial⟩ ?_
            refine j_goto (p2 := 3) dT_toStart_131 (by decide) ?_
            refine J.loc (lv' := [(0, _), (1, _), (2, _), (4, _)]) ⟨rfl, rfl, rfl, rfl, trivial⟩ ?_
            exact this
          rw [← hω]
          refine j_iload (p2 := 98) dT_toStart_96 rfl rfl ?_
          refine j_iload (p2 := 100) dT_toStart_98 rfl rfl ?_
          refine j_iconst (p2 := 101) dT_toStart_100 rfl ?_
          refine j_iadd (p2 := 102) dT_toStart_101 rfl ?_
          refine j_bipush (v := 16) (p2 := 104) dT_toStart_102 rfl rfl ?_
          refine j_imul (p2 := 105) dT_toStart_104 rfl ?_
          refine j_icmp_ge (p2 := 108) (tg := 128) dT_toStart_105 rfl (by decide) (by constructor <;> omega) (by constructor <;> omega) (fun h105 => ?_) (fun h105 => ?_)
          · refine J.loc (lv' := [(0, _), (1, _), (2, _), (4, _)]) ⟨rfl, rfl, rfl, rfl, trivial⟩ ?_
            exact done (by omega)
          · refine j_aload_n (p2 := 109) dT_toStart_108 rfl rfl ?_
            refine j_getR (p2 := 112) dT_toStart_109 rfl fa_T_21 ly_34 rfl ?_
            refine j_iload (p2 := 114) dT_toStart_112 rfl rfl ?_
            refine j_aload_n (p2 := 115) dT_toStart_114 rfl rfl ?_
            refine j_getR (p2 := 118) dT_toStart_115 rfl fa_T_18 ly_34 rfl ?_
            refine j_iload (p2 := 120) dT_toStart_118 rfl rfl ?_
            refine j_dald (p2 := 121) dT_toStart_120 rfl ly_37 (by decide) (by omega) (by omega) ?_
            refine j_dastk (p2 := 122) dT_toStart_121 rfl ly_38 (by decide) (by omega) (by omega) ?_
            refine j_iinc (p2 := 125) (lv' := [(0, _), (1, _), (2, _), (4, _), (7, _)]) dT_toStart_122 rfl (Nat.le_of_ble_eq_true rfl) rfl ⟨rfl, rfl, rfl, rfl, rfl, trivial⟩ ?_
            refine j_goto (p2 := 96) dT_toStart_125 (by decide) ?_
            refine J.loc (lv' := [(0, _), (1, _), (2, _), (4, _), (7, _)]) ⟨rfl, rfl, rfl, rfl, rfl, trivial⟩ ?_
            exact nxt (by omega)
      clear ih
      have at35 : i < N → ∀ x, x = svC σ c v i → J mT_toStart 35 [(0, vR 34), (1, vI c), (2, vD v), (4, vI i)] [vD x] τ Q := by
        intro hi x hx
        subst hx
        have st := inner hi 17 0 (by omega) (by omega) w (fun m x y => (hna m x y).2.2.2.2) (fun j j0 j1 => absurd j1 (by omega))
        have m1 : wI (wI (wD (wD τ 36 (fup (hD τ 36) i (rndC true (svC σ c v i)))) 37 (fup (hD τ 37) i (rndC true (hD σ 8 i)))) 40 (fup (hI τ 40) i (FP.d2i (svC σ c v i)).toInt)) 39 (fup (hI τ 39) i 0) = nSf σ (fup a i (rndC true (svC σ c v i))) (fup b i (rndC true (hD σ 8 i))) w (fup d i (FP.d2i (svC σ c v i)).toInt) (fup o i 0) := by
          rw [ea, eb, ed, eo, hτ, nSf_1]
        rw [← m1] at st
        have e82 : ∀ y, hD (wD τ 36 y) 8 i = hD σ 8 i := fun y => by show hD τ 8 i = _; rw [e8]
        refine j_dstore (p2 := 37) (lv' := [(0, _), (1, _), (2, _), (4, _), (5, _)]) dT_toStart_35 rfl (Nat.le_of_ble_eq_true rfl) ⟨rfl, rfl, rfl, rfl, rfl, trivial⟩ ?_
        refine j_aload_n (p2 := 38) dT_toStart_37 rfl rfl ?_
        refine j_getR (p2 := 41) dT_toStart_38 rfl fa_T_15 ly_34 rfl ?_
        refine j_iload (p2 := 43) dT_toStart_41 rfl rfl ?_
        refine j_aload_n (p2 := 44) dT_toStart_43 rfl rfl ?_
        refine j_dload (p2 := 46) dT_toStart_44 rfl rfl ?_
        refine j_callV (m' := mT_rounded) (As := [_]) (p2 := 49) dT_toStart_46 rfl ml_T_74 ok_mT_rounded im_mT_rounded se_mT_rounded rfl rfl (Nat.le_of_ble_eq_true rfl) ly_34 rfl (Nat.le_of_ble_eq_true rfl) ⟨(Nat.le_of_ble_eq_true rfl), (Nat.le_of_ble_eq_true rfl)⟩ ?_
        refine cTf_rounded efl (hvi hi).1 ?_
        refine j_dastk (p2 := 50) dT_toStart_49 rfl ly_36 (by decide) (by omega) (by omega) ?_
        refine j_aload_n (p2 := 51) dT_toStart_50 rfl rfl ?_
        refine j_getR (p2 := 54) dT_toStart_51 rfl fa_T_18 ly_34 rfl ?_
        refine j_iload (p2 := 56) dT_toStart_54 rfl rfl ?_
        refine j_aload_n (p2 := 57) dT_toStart_56 rfl rfl ?_
        refine j_aload_n (p2 := 58) dT_toStart_57 rfl rfl ?_
        refine j_getR (p2 := 61) dT_toStart_58 rfl fa_T_49 ly_34 rfl ?_
        refine j_getR (p2 := 64) dT_toStart_61 rfl fa_T_78 ly_3 rfl ?_
        refine j_iload (p2 := 66) dT_toStart_64 rfl rfl ?_
        refine j_dald (p2 := 67) dT_toStart_66 rfl ly_8 (by decide) (by omega) (by omega) ?_
        refine j_callV (m' := mT_rounded) (As := [_]) (p2 := 70) dT_toStart_67 rfl ml_T_74 ok_mT_rounded im_mT_rounded se_mT_rounded rfl rfl (Nat.le_of_ble_eq_true rfl) ly_34 rfl (Nat.le_of_ble_eq_true rfl) ⟨(Nat.le_of_ble_eq_true rfl), (Nat.le_of_ble_eq_true rfl)⟩ ?_
        rw [e82]
        refine cTf_rounded efl (hvi hi).2 ?_
        refine j_dastk (p2 := 71) dT_toStart_70 rfl ly_37 (by decide) (by omega) (by omega) ?_
        refine j_aload_n (p2 := 72) dT_toStart_71 rfl rfl ?_
        refine j_getR (p2 := 75) dT_toStart_72 rfl fa_T_28 ly_34 rfl ?_
        refine j_iload (p2 := 77) dT_toStart_75 rfl rfl ?_
        refine j_dload (p2 := 79) dT_toStart_77 rfl rfl ?_
        refine j_d2i (p2 := 80) dT_toStart_79 rfl ?_
        refine j_iastk (p2 := 81) dT_toStart_80 rfl ly_40 (by decide) (by omega) (by omega) ?_
        refine j_aload_n (p2 := 82) dT_toStart_81 rfl rfl ?_
        refine j_getR (p2 := 85) dT_toStart_82 rfl fa_T_24 ly_34 rfl ?_
        refine j_iload (p2 := 87) dT_toStart_85 rfl rfl ?_
        refine j_iconst (p2 := 88) dT_toStart_87 rfl ?_
        refine j_iastk (p2 := 89) dT_toStart_88 rfl ly_39 (by decide) (by omega) (by omega) ?_
        refine j_iload (p2 := 91) dT_toStart_89 rfl rfl ?_
        refine j_bipush (v := 16) (p2 := 93) dT_toStart_91 rfl rfl ?_
        refine j_imul (p2 := 94) dT_toStart_93 rfl ?_
        refine j_istore (p2 := 96) (lv' := [(0, _), (1, _), (2, _), (4, _), (7, _)]) dT_toStart_94 rfl (Nat.le_of_ble_eq_true rfl) ⟨rfl, rfl, rfl, rfl, rfl, trivial⟩ ?_
        refine J.loc (lv' := [(0, _), (1, _), (2, _), (4, _), (7, _)]) ⟨rfl, rfl, rfl, rfl, rfl, trivial⟩ ?_
        have e0 : (i : Int) * 16 + ((0 : Nat) : Int) = (i : Int) * 16 := Int.add_zero _
        rw [e0] at st
        exact st
      rw [← hτ]
      refine j_iload (p2 := 5) dT_toStart_3 rfl rfl ?_
      refine j_aload_n (p2 := 6) dT_toStart_5 rfl rfl ?_
      refine j_getR (p2 := 9) dT_toStart_6 rfl fa_T_49 ly_34 rfl ?_
      refine j_getIk (p2 := 12) dT_toStart_9 rfl fa_T_65 ly_3 rfl (ki := 0) rfl ?_
      refine j_icmp_ge (p2 := 15) (tg := 134) dT_toStart_12 rfl (by decide) (by constructor <;> omega) (by rw [eN]; constructor <;> omega) (fun h12 => ?_) (fun h12 => ?_)
      · refine J.loc (lv' := [(0, _)]) ⟨rfl, trivial⟩ ?_
        rw [eN] at h12
        have e : i = N := by omega
        subst e
        rw [hτ]
        exact hQ a b w d o hna
      · refine j_iload (p2 := 17) dT_toStart_15 rfl rfl ?_
        refine j_iload_n (p2 := 18) dT_toStart_17 rfl rfl ?_
        refine j_icmp_ne (p2 := 21) (tg := 25) dT_toStart_18 rfl (by decide) (by constructor <;> omega) (by exact hcr) (fun h18 => ?_) (fun h18 => ?_)
        · refine j_aload_n (p2 := 26) dT_toStart_25 rfl rfl ?_
          refine j_getR (p2 := 29) dT_toStart_26 rfl fa_T_49 ly_34 rfl ?_
          refine j_getR (p2 := 32) dT_toStart_29 rfl fa_T_71 ly_3 rfl ?_
          refine j_iload (p2 := 34) dT_toStart_32 rfl rfl ?_
          refine j_dald (p2 := 35) dT_toStart_34 rfl ly_6 (by decide) (by omega) (by rw [eN] at h12; omega) ?_
          refine J.loc (lv' := [(0, _), (1, _), (2, _), (4, _)]) ⟨rfl, rfl, rfl, rfl, trivial⟩ ?_
          rw [eN] at h12
          first
            | (have g : (i : Int) = c := h18
               exact at35 (by omega) _ (by unfold svC; rw [if_pos g]))
            | (have g : ¬ (i : Int) = c := h18
               rw [e6]
               exact at35 (by omega) _ (by unfold svC; rw [if_neg g]))
        · refine j_dload_n (p2 := 22) dT_toStart_21 rfl rfl ?_
          refine j_goto (p2 := 35) dT_toStart_22 (by decide) ?_
          refine J.loc (lv' := [(0, _), (1, _), (2, _), (4, _)]) ⟨rfl, rfl, rfl, rfl, trivial⟩ ?_
          rw [eN] at h12
          first
            | (have g : (i : Int) = c := h18
               exact at35 (by omega) _ (by unfold svC; rw [if_pos g]))
            | (have g : ¬ (i : Int) = c := h18
               rw [e6]
               exact at35 (by omega) _ (by unfold svC; rw [if_neg g]))
  have start := loop (N + 1) 0 (by omega) (by omega) (hD σ 36) (hD σ 37) (hD σ 38) (hI σ 40) (hI σ 39) (fun m x y => absurd y (by omega))
  rw [nSf_0] at start
  exact start
def nSt (σ : Hp) (a b w : Int → UInt64) (d o : Int → Int) : Hp := wI (wI (wD (wD (wD σ 58 a) 59 b) 60 w) 62 d) 61 o
theorem nSt_1 {a a' b b' w : Int → UInt64} {d d' o o' : Int → Int} : wI (wI (wD (wD (nSt σ a b w d o) 58 a') 59 b') 62 d') 61 o' = nSt σ a' b' w d' o' := by
  unfold nSt
  apply hp_ext <;> intro x <;> simp only [hI_wI, hI_wL, hI_wF, hI_wD, hL_wI, hL_wL, hL_wF, hL_wD, hF_wI, hF_wL, hF_wF, hF_wD, hD_wI, hD_wL, hD_wF, hD_wD]
  · by_cases h1 : x = 61 <;> by_cases h2 : x = 62 <;> simp_all
  · by_cases h1 : x = 59 <;> by_cases h2 : x = 60 <;> by_cases h3 : x = 58 <;> simp_all
theorem nSt_2 {a b w w' : Int → UInt64} {d o : Int → Int} : wD (nSt σ a b w d o) 60 w' = nSt σ a b w' d o := by
  unfold nSt
  apply hp_ext <;> intro x <;> simp only [hI_wI, hI_wL, hI_wF, hI_wD, hL_wI, hL_wL, hL_wF, hL_wD, hF_wI, hF_wL, hF_wF, hF_wD, hD_wI, hD_wL, hD_wF, hD_wD]
  by_cases h1 : x = 59 <;> by_cases h2 : x = 60 <;> by_cases h3 : x = 58 <;> simp_all
theorem nSt_0 : nSt σ (hD σ 58) (hD σ 59) (hD σ 60) (hI σ 62) (hI σ 61) = σ := by
  unfold nSt
  rw [wD_id, wD_id, wD_id, wI_id, wI_id]
abbrev Nbat (σ : Hp) (c : Int) (v : UInt64) (i : Int) (a b w : Int → UInt64) (d o : Int → Int) : Prop := ∀ m : Int, 0 ≤ m → m < i → a m = rndC false (svC σ c v m) ∧ b m = rndC false (hD σ 8 m) ∧ d m = (FP.d2i (svC σ c v m)).toInt ∧ o m = 0 ∧ ∀ j : Int, 0 ≤ j → j < 16 → w (m * 16 + j) = rndC false (hD σ 8 m)
theorem tst_loop {N : Nat} {c : Int} {v : UInt64} (hN : hI σ 3 0 = N ∧ N ≤ 20) (hfl : hI σ 56 3 = 0) (hcr : inR c) (hsv : ∀ m : Int, 0 ≤ m → m < N → vf_n64 (svC σ c v m) ∧ vf_n64 (hD σ 8 m)) (hQ : ∀ a b w d o, Nbat σ c v N a b w d o → J mT_toStart 134 [(0, vR 56)] [] (nSt σ a b w d o) Q) : J mT_toStart 3 [(0, vR 56), (1, vI c), (2, vD v), (4, vI 0)] [] σ Q := by
  obtain ⟨hN, hN2⟩ := hN
  have loop : ∀ (n i : Nat), i ≤ N → N + 1 ≤ i + n → ∀ a b w d o, Nbat σ c v i a b w d o → J mT_toStart 3 [(0, vR 56), (1, vI c), (2, vD v), (4, vI i)] [] (nSt σ a b w d o) Q := by
    intro n
    induction n with
    | zero => intro i h1 h2; exact absurd h2 (by omega)
    | succ n ih =>
      intro i h1 h2 a b w d o hna
      obtain ⟨τ, hτ⟩ : ∃ τ, τ = nSt σ a b w d o := ⟨_, rfl⟩
      have eN : hI τ 3 0 = N := by rw [hτ]; exact hN
      have e6 : hD τ 6 = hD σ 6 := by rw [hτ]; rfl
      have e8 : hD τ 8 = hD σ 8 := by rw [hτ]; rfl
      have efl : hI τ 56 3 = 0 := by rw [hτ]; exact hfl
      have ea : hD τ 58 = a := by rw [hτ]; rfl
      have eb : hD τ 59 = b := by rw [hτ]; rfl
      have ed : hI τ 62 = d := by rw [hτ]; rfl
      have eo : hI τ 61 = o := by rw [hτ]; rfl
      have hvi : i < N → vf_n64 (svC σ c v i) ∧ vf_n64 (hD σ 8 i) := fun z => hsv i (by omega) (by omega)
      have inner : i < N → ∀ (n2 q : Nat), q ≤ 16 → 17 ≤ q + n2 → ∀ w', (∀ m : Int, 0 ≤ m → m < i → ∀ j : Int, 0 ≤ j → j < 16 → w' (m * 16 + j) = rndC false (hD σ 8 m)) → (∀ j : Int, 0 ≤ j → j < q → w' ((i : Int) * 16 + j) = rndC false (hD σ 8 i)) → J mT_toStart 96 [(0, vR 56), (1, vI c), (2, vD v), (4, vI i), (7, vI ((i : Int) * 16 + q))] [] (nSt σ (fup a i (rndC false (svC σ c v i))) (fup b i (rndC false (hD σ 8 i))) w' (fup d i (FP.d2i (svC σ c v i)).toInt) (fup o i 0)) Q := by
        intro hi n2
        induction n2 with
        | zero => intro q a1 a2; exact absurd a2 (by omega)
        | succ n2 ih2 =>
          intro q a1 a2 w' hw1 hw2
          obtain ⟨ω, hω⟩ : ∃ ω, ω = nSt σ (fup a i (rndC false (svC σ c v i))) (fup b i (rndC false (hD σ 8 i))) w' (fup d i (FP.d2i (svC σ c v i)).toInt) (fup o i 0) := ⟨_, rfl⟩
          have gb : hD ω 59 i = rndC false (hD σ 8 i) := by rw [hω]; exact fup_s _ _ _
          have gw : hD ω 60 = w' := by rw [hω]; rfl
          have nxt : q < 16 → J mT_toStart 96 [(0, vR 56), (1, vI c), (2, vD v), (4, vI i), (7, vI ((i : Int) * 16 + q + 1))] [] (wD ω 60 (fup (hD ω 60) ((i : Int) * 16 + q) (hD ω 59 i))) Q := fun hq => by
            rw [gb, gw, hω, nSt_2]
            have := ih2 (q + 1) (by omega) (by omega) (fup w' ((i : Int) * 16 + q) (rndC false (hD σ 8 i))) (fun m x y j j0 j1 => by rw [fup_n (by omega)]; exact hw1 m x y j j0 j1) (fun j j0 j1 => by
              by_cases e : j = q
              · rw [e, fup_s]
              · rw [fup_n (by omega)]; exact hw2 j j0 (by omega))
            rw [show (i : Int) * 16 + ((q + 1 : Nat) : Int) = (i : Int) * 16 + q + 1 by omega] at this
            exact this
          have done : q = 16 → J mT_toStart 128 [(0, vR 56), (1, vI c), (2, vD v), (4, vI i)] [] ω Q := fun hq => by
            subst hq
            have := ih (i + 1) (by omega) (by omega) (fup a i (rndC false (svC σ c v i))) (fup b i (rndC false (hD σ 8 i))) w' (fup d i (FP.d2i (svC σ c v i)).toInt) (fup o i 0) (fun m x y => by
              by_cases e : m = i
              · subst e
                rw [fup_s, fup_s, fup_s, fup_s]
                exact ⟨rfl, rfl, rfl, rfl, fun j j0 j1 => hw2 j j0 (by omega)⟩
              · rw [fup_n e, fup_n e, fup_n e, fup_n e]
                obtain ⟨z1, z2, z3, z4, z5⟩ := hna m x (by omega)
                exact ⟨z1, z2, z3, z4, fun j j0 j1 => hw1 m x (by omega) j j0 j1⟩)
            rw [← hω] at this
            refine j_iinc (p2 := 131) (lv' := [(0, _), (1, _), (2, _), (4, _)]) dT_toStart_128 rfl (Nat.le_of_ble_eq_true rfl) rfl ⟨rfl, rfl, rfl, rfl, trivial⟩ ?_
            refine j_goto (p2 := 3) dT_toStart_131 (by decide) ?_
            refine J.loc (lv' := [(0, _), (1, _), (2, _), (4, _)]) ⟨rfl, rfl, rfl, rfl, trivial⟩ ?_
            exact this
          rw [← hω]
          refine j_iload (p2 := 98) dT_toStart_96 rfl rfl ?_
          refine j_iload (p2 := 100) dT_toStart_98 rfl rfl ?_
          refine j_iconst (p2 := 101) dT_toStart_100 rfl ?_
          refine j_iadd (p2 := 102) dT_toStart_101 rfl ?_
          refine j_bipush (v := 16) (p2 := 104) dT_toStart_102 rfl rfl ?_
          refine j_imul (p2 := 105) dT_toStart_104 rfl ?_
          refine j_icmp_ge (p2 := 108) (tg := 128) dT_toStart_105 rfl (by decide) (by constructor <;> omega) (by constructor <;> omega) (fun h105 => ?_) (fun h105 => ?_)
          · refine J.loc (lv' := [(0, _), (1, _), (2, _), (4, _)]) ⟨rfl, rfl, rfl, rfl, trivial⟩ ?_
            exact done (by omega)
          · refine j_aload_n (p2 := 109) dT_toStart_108 rfl rfl ?_
            refine j_getR (p2 := 112) dT_toStart_109 rfl fa_T_21 ly_56 rfl ?_
            refine j_iload (p2 := 114) dT_toStart_112 rfl rfl ?_
            refine j_aload_n (p2 := 115) dT_toStart_114 rfl rfl ?_
            refine j_getR (p2 := 118) dT_toStart_115 rfl fa_T_18 ly_56 rfl ?_
            refine j_iload (p2 := 120) dT_toStart_118 rfl rfl ?_
            refine j_dald (p2 := 121) dT_toStart_120 rfl ly_59 (by decide) (by omega) (by omega) ?_
            refine j_dastk (p2 := 122) dT_toStart_121 rfl ly_60 (by decide) (by omega) (by omega) ?_
            refine j_iinc (p2 := 125) (lv' := [(0, _), (1, _), (2, _), (4, _), (7, _)]) dT_toStart_122 rfl (Nat.le_of_ble_eq_true rfl) rfl ⟨rfl, rfl, rfl, rfl, rfl, trivial⟩ ?_
            refine j_goto (p2 := 96) dT_toStart_125 (by decide) ?_
            refine J.loc (lv' := [(0, _), (1, _), (2, _), (4, _), (7, _)]) ⟨rfl, rfl, rfl, rfl, rfl, trivial⟩ ?_
            exact nxt (by omega)
      clear ih
      have at35 : i < N → ∀ x, x = svC σ c v i → J mT_toStart 35 [(0, vR 56), (1, vI c), (2, vD v), (4, vI i)] [vD x] τ Q := by
        intro hi x hx
        subst hx
        have st := inner hi 17 0 (by omega) (by omega) w (fun m x y => (hna m x y).2.2.2.2) (fun j j0 j1 => absurd j1 (by omega))
        have m1 : wI (wI (wD (wD τ 58 (fup (hD τ 58) i (rndC false (svC σ c v i)))) 59 (fup (hD τ 59) i (rndC false (hD σ 8 i)))) 62 (fup (hI τ 62) i (FP.d2i (svC σ c v i)).toInt)) 61 (fup (hI τ 61) i 0) = nSt σ (fup a i (rndC false (svC σ c v i))) (fup b i (rndC false (hD σ 8 i))) w (fup d i (FP.d2i (svC σ c v i)).toInt) (fup o i 0) := by
          rw [ea, eb, ed, eo, hτ, nSt_1]
        rw [← m1] at st
        have e82 : ∀ y, hD (wD τ 58 y) 8 i = hD σ 8 i := fun y => by show hD τ 8 i = _; rw [e8]
        refine j_dstore (p2 := 37) (lv' := [(0, _), (1, _), (2, _), (4, _), (5, _)]) dT_toStart_35 rfl (Nat.le_of_ble_eq_true rfl) ⟨rfl, rfl, rfl, rfl, rfl, trivial⟩ ?_
        refine j_aload_n (p2 := 38) dT_toStart_37 rfl rfl ?_
        refine j_getR (p2 := 41) dT_toStart_38 rfl fa_T_15 ly_56 rfl ?_
        refine j_iload (p2 := 43) dT_toStart_41 rfl rfl ?_
        refine j_aload_n (p2 := 44) dT_toStart_43 rfl rfl ?_
        refine j_dload (p2 := 46) dT_toStart_44 rfl rfl ?_
        refine j_callV (m' := mT_rounded) (As := [_]) (p2 := 49) dT_toStart_46 rfl ml_T_74 ok_mT_rounded im_mT_rounded se_mT_rounded rfl rfl (Nat.le_of_ble_eq_true rfl) ly_56 rfl (Nat.le_of_ble_eq_true rfl) ⟨(Nat.le_of_ble_eq_true rfl), (Nat.le_of_ble_eq_true rfl)⟩ ?_
        refine cTt_rounded efl (hvi hi).1 ?_
        refine j_dastk (p2 := 50) dT_toStart_49 rfl ly_58 (by decide) (by omega) (by omega) ?_
        refine j_aload_n (p2 := 51) dT_toStart_50 rfl rfl ?_
        refine j_getR (p2 := 54) dT_toStart_51 rfl fa_T_18 ly_56 rfl ?_
        refine j_iload (p2 := 56) dT_toStart_54 rfl rfl ?_
        refine j_aload_n (p2 := 57) dT_toStart_56 rfl rfl ?_
        refine j_aload_n (p2 := 58) dT_toStart_57 rfl rfl ?_
        refine j_getR (p2 := 61) dT_toStart_58 rfl fa_T_49 ly_56 rfl ?_
        refine j_getR (p2 := 64) dT_toStart_61 rfl fa_T_78 ly_3 rfl ?_
        refine j_iload (p2 := 66) dT_toStart_64 rfl rfl ?_
        refine j_dald (p2 := 67) dT_toStart_66 rfl ly_8 (by decide) (by omega) (by omega) ?_
        refine j_callV (m' := mT_rounded) (As := [_]) (p2 := 70) dT_toStart_67 rfl ml_T_74 ok_mT_rounded im_mT_rounded se_mT_rounded rfl rfl (Nat.le_of_ble_eq_true rfl) ly_56 rfl (Nat.le_of_ble_eq_true rfl) ⟨(Nat.le_of_ble_eq_true rfl), (Nat.le_of_ble_eq_true rfl)⟩ ?_
        rw [e82]
        refine cTt_rounded efl (hvi hi).2 ?_
        refine j_dastk (p2 := 71) dT_toStart_70 rfl ly_59 (by decide) (by omega) (by omega) ?_
        refine j_aload_n (p2 := 72) dT_toStart_71 rfl rfl ?_
        refine j_getR (p2 := 75) dT_toStart_72 rfl fa_T_28 ly_56 rfl ?_
        refine j_iload (p2 := 77) dT_toStart_75 rfl rfl ?_
        refine j_dload (p2 := 79) dT_toStart_77 rfl rfl ?_
        refine j_d2i (p2 := 80) dT_toStart_79 rfl ?_
        refine j_iastk (p2 := 81) dT_toStart_80 rfl ly_62 (by decide) (by omega) (by omega) ?_
        refine j_aload_n (p2 := 82) dT_toStart_81 rfl rfl ?_
        refine j_getR (p2 := 85) dT_toStart_82 rfl fa_T_24 ly_56 rfl ?_
        refine j_iload (p2 := 87) dT_toStart_85 rfl rfl ?_
        refine j_iconst (p2 := 88) dT_toStart_87 rfl ?_
        refine j_iastk (p2 := 89) dT_toStart_88 rfl ly_61 (by decide) (by omega) (by omega) ?_
        refine j_iload (p2 := 91) dT_toStart_89 rfl rfl ?_
        refine j_bipush (v := 16) (p2 := 93) dT_toStart_91 rfl rfl ?_
        refine j_imul (p2 := 94) dT_toStart_93 rfl ?_
        refine j_istore (p2 := 96) (lv' := [(0, _), (1, _), (2, _), (4, _), (7, _)]) dT_toStart_94 rfl (Nat.le_of_ble_eq_true rfl) ⟨rfl, rfl, rfl, rfl, rfl, trivial⟩ ?_
        refine J.loc (lv' := [(0, _), (1, _), (2, _), (4, _), (7, _)]) ⟨rfl, rfl, rfl, rfl, rfl, trivial⟩ ?_
        have e0 : (i : Int) * 16 + ((0 : Nat) : Int) = (i : Int) * 16 := Int.add_zero _
        rw [e0] at st
        exact st
      rw [← hτ]
      refine j_iload (p2 := 5) dT_toStart_3 rfl rfl ?_
      refine j_aload_n (p2 := 6) dT_toStart_5 rfl rfl ?_
      refine j_getR (p2 := 9) dT_toStart_6 rfl fa_T_49 ly_56 rfl ?_
      refine j_getIk (p2 := 12) dT_toStart_9 rfl fa_T_65 ly_3 rfl (ki := 0) rfl ?_
      refine j_icmp_ge (p2 := 15) (tg := 134) dT_toStart_12 rfl (by decide) (by constructor <;> omega) (by rw [eN]; constructor <;> omega) (fun h12 => ?_) (fun h12 => ?_)
      · refine J.loc (lv' := [(0, _)]) ⟨rfl, trivial⟩ ?_
        rw [eN] at h12
        have e : i = N := by omega
        subst e
        rw [hτ]
        exact hQ a b w d o hna
      · refine j_iload (p2 := 17) dT_toStart_15 rfl rfl ?_
        refine j_iload_n (p2 := 18) dT_toStart_17 rfl rfl ?_
        refine j_icmp_ne (p2 := 21) (tg := 25) dT_toStart_18 rfl (by decide) (by constructor <;> omega) (by exact hcr) (fun h18 => ?_) (fun h18 => ?_)
        · refine j_aload_n (p2 := 26) dT_toStart_25 rfl rfl ?_
          refine j_getR (p2 := 29) dT_toStart_26 rfl fa_T_49 ly_56 rfl ?_
          refine j_getR (p2 := 32) dT_toStart_29 rfl fa_T_71 ly_3 rfl ?_
          refine j_iload (p2 := 34) dT_toStart_32 rfl rfl ?_
          refine j_dald (p2 := 35) dT_toStart_34 rfl ly_6 (by decide) (by omega) (by rw [eN] at h12; omega) ?_
          refine J.loc (lv' := [(0, _), (1, _), (2, _), (4, _)]) ⟨rfl, rfl, rfl, rfl, trivial⟩ ?_
          rw [eN] at h12
          first
            | (have g : (i : Int) = c := h18
               exact at35 (by omega) _ (by unfold svC; rw [if_pos g]))
            | (have g : ¬ (i : Int) = c := h18
               rw [e6]
               exact at35 (by omega) _ (by unfold svC; rw [if_neg g]))
        · refine j_dload_n (p2 := 22) dT_toStart_21 rfl rfl ?_
          refine j_goto (p2 := 35) dT_toStart_22 (by decide) ?_
          refine J.loc (lv' := [(0, _), (1, _), (2, _), (4, _)]) ⟨rfl, rfl, rfl, rfl, trivial⟩ ?_
          rw [eN] at h12
          first
            | (have g : (i : Int) = c := h18
               exact at35 (by omega) _ (by unfold svC; rw [if_pos g]))
            | (have g : ¬ (i : Int) = c := h18
               rw [e6]
               exact at35 (by omega) _ (by unfold svC; rw [if_neg g]))
  have start := loop (N + 1) 0 (by omega) (by omega) (hD σ 58) (hD σ 59) (hD σ 60) (hI σ 62) (hI σ 61) (fun m x y => absurd y (by omega))
  rw [nSt_0] at start
  exact start
end TWC13
