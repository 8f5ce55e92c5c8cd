/-! ===== what else is remembered ===== -/
section GO
variable {α : Type}
/-- row m (n places, oldest first) with v behind -/
def shf (f : Int → α) (m n : Int) (v : α) : Int → α := fun j => if 16 * m ≤ j ∧ j < 16 * m + n - 1 then f (j + 1) else if j = 16 * m + n - 1 then v else f j
def shk (f : Int → α) (m k : Int) : Int → α := fun j => if 16 * m ≤ j ∧ j < 16 * m + k then f (j + 1) else f j
theorem shk_0 (f : Int → α) (m : Int) : shk f m 0 = f := by
  funext j; unfold shk; rw [if_neg (by omega)]
theorem shk_s {f : Int → α} {m k : Int} (hk : 0 ≤ k) : fup (shk f m k) (16 * m + k) (shk f m k (16 * m + k + 1)) = shk f m (k + 1) := by
  funext j; unfold fup shk
  by_cases h : j = 16 * m + k
  · subst h
    rw [if_pos rfl, if_neg (by omega), if_pos (by omega)]
  · rw [if_neg h]
    by_cases h2 : 16 * m ≤ j ∧ j < 16 * m + k
    · rw [if_pos h2, if_pos (by omega)]
    · rw [if_neg h2, if_neg (by omega)]
theorem shk_e {f : Int → α} {m n : Int} {v : α} : fup (shk f m (n - 1)) (16 * m + n - 1) v = shf f m n v := by
  funext j; unfold fup shk shf
  by_cases h : j = 16 * m + n - 1
  · subst h
    rw [if_pos rfl, if_neg (by omega), if_pos rfl]
  · rw [if_neg h]
    by_cases h2 : 16 * m ≤ j ∧ j < 16 * m + n - 1
    · rw [if_pos (by omega), if_pos h2]
    · rw [if_neg (by omega), if_neg h2, if_neg h]
/-- all rows, moved on -/
def rowS (kd nn : Int → Int) (f nx : Int → α) : Int → α := fun j => if kd (j / 16) = 11 then shf f (j / 16) (nn (j / 16)) (nx (j / 16)) j else f j
theorem rowS_y {kd nn : Int → Int} {f nx : Int → α} {i : Nat} (h : kd i = 11) (hn : 1 ≤ nn i ∧ nn i ≤ 16) : pw f (rowS kd nn f nx) (16 * (i + 1)) = shf (pw f (rowS kd nn f nx) (16 * i)) i (nn i) (nx i) := by
  funext j
  by_cases h1 : 0 ≤ j ∧ j < (16 * i : Nat)
  · have e : shf (pw f (rowS kd nn f nx) (16 * i)) i (nn i) (nx i) j = pw f (rowS kd nn f nx) (16 * i) j := by
      unfold shf; rw [if_neg (by omega), if_neg (by omega)]
    rw [e, pw_lo h1.1 h1.2, pw_lo h1.1 (by omega)]
  · by_cases h2 : (16 * i : Nat) ≤ j ∧ j < (16 * (i + 1) : Nat)
    · rw [pw_lo (by omega) h2.2]
      have e : j / 16 = (i : Int) := by omega
      unfold rowS
      rw [e, if_pos h]
      unfold shf
      by_cases h3 : 16 * (i : Int) ≤ j ∧ j < 16 * (i : Int) + nn i - 1
      · rw [if_pos h3, if_pos h3, pw_hi (by omega)]
      · rw [if_neg h3, if_neg h3]
        by_cases h4 : j = 16 * (i : Int) + nn i - 1
        · rw [if_pos h4, if_pos h4]
        · rw [if_neg h4, if_neg h4, pw_hi (by omega)]
    · have e : shf (pw f (rowS kd nn f nx) (16 * i)) i (nn i) (nx i) j = pw f (rowS kd nn f nx) (16 * i) j := by
        unfold shf; rw [if_neg (by omega), if_neg (by omega)]
      rw [e]
      unfold pw
      rw [if_neg (by omega), if_neg (by omega)]
theorem rowS_n {kd nn : Int → Int} {f nx : Int → α} {i : Nat} (h : ¬ kd i = 11) : pw f (rowS kd nn f nx) (16 * i) = pw f (rowS kd nn f nx) (16 * (i + 1)) := by
  funext j
  by_cases h1 : 0 ≤ j ∧ j < (16 * i : Nat)
  · rw [pw_lo h1.1 h1.2, pw_lo h1.1 (by omega)]
  · by_cases h2 : (16 * i : Nat) ≤ j ∧ j < (16 * (i + 1) : Nat)
    · rw [pw_lo (n := 16 * (i + 1)) (by omega) h2.2, pw_hi (by omega)]
      have e : j / 16 = (i : Int) := by omega
      unfold rowS
      rw [e, if_neg h]
    · unfold pw
      rw [if_neg (by omega), if_neg (by omega)]
/-- the states behind a step of what is not gathered -/
def othS (kd : Int → Int) (nx st : Int → α) (z : Int → α) : Int → α := fun m => if kd m = 3 then nx m else if kd m = 13 then z m else st m
end GO
def sdS (kd sd : Int → Int) : Int → Int := fun m => if kd m = 13 then 1664525 * sd m + 1013904223 else sd m
section REF9
variable {σ : Hp} {Q : Option PV → Hp → Prop}
def oH (σ : Hp) (a : Int → UInt64) (b : Int → UInt32) (c : Int → UInt64) (d : Int → UInt32) (e : Int → Int) : Hp := wI (wF (wD (wF (wD σ 80 a) 81 b) 84 c) 85 d) 86 e
def nnR (σ : Hp) : Int → Int := fun m => (FP.d2i (hD σ 71 m)).toInt
def otH (σ : Hp) (N : Nat) : Hp := oH σ (pw (hD σ 80) (othS (hI σ 70) (hD σ 113) (hD σ 80) (fun m => nz (sdS (hI σ 70) (hI σ 86) m))) N) (pw (hF σ 81) (othS (hI σ 70) (hF σ 114) (hF σ 81) (fun m => FP.d2f (nz (sdS (hI σ 70) (hI σ 86) m)))) N)
  (pw (hD σ 84) (rowS (hI σ 70) (nnR σ) (hD σ 84) (hD σ 113)) (16 * N)) (pw (hF σ 85) (rowS (hI σ 70) (nnR σ) (hF σ 85) (hF σ 114)) (16 * N)) (pw (hI σ 86) (sdS (hI σ 70) (hI σ 86)) N)
theorem otH_0 : otH σ 0 = σ := by
  unfold otH oH
  rw [pw_0, pw_0, show 16 * 0 = 0 from rfl, pw_0, pw_0, pw_0, wD_id]
  rw [show wF σ 81 (hF σ 81) = σ from wF_id σ 81, wD_id, wF_id, wI_id]
theorem oH_st {a a' : Int → UInt64} {b b' : Int → UInt32} {c : Int → UInt64} {d : Int → UInt32} {e : Int → Int} : wF (wD (oH σ a b c d e) 80 a') 81 b' = oH σ a' b' c d e := by
  unfold oH
  apply hp_ext <;> intro x <;> simp only [hI_wI, hI_wL, hI_wF, hI_wD, hL_wI, hL_wL, hL_wF, hL_wD, hF_wI, hF_wL, hF_wF, hF_wD, hD_wI, hD_wL, hD_wF, hD_wD]
  · by_cases h1 : x = 81 <;> by_cases h2 : x = 85 <;> simp_all
  · by_cases h1 : x = 80 <;> by_cases h2 : x = 84 <;> simp_all
theorem oH_rw {a : Int → UInt64} {b : Int → UInt32} {c c' : Int → UInt64} {d d' : Int → UInt32} {e : Int → Int} : wF (wD (oH σ a b c d e) 84 c') 85 d' = oH σ a b c' d' e := by
  unfold oH
  apply hp_ext <;> intro x <;> simp only [hI_wI, hI_wL, hI_wF, hI_wD, hL_wI, hL_wL, hL_wF, hL_wD, hF_wI, hF_wL, hF_wF, hF_wD, hD_wI, hD_wL, hD_wF, hD_wD]
  · by_cases h1 : x = 81 <;> by_cases h2 : x = 85 <;> simp_all
  · by_cases h1 : x = 80 <;> by_cases h2 : x = 84 <;> simp_all
theorem oH_sd {a a' : Int → UInt64} {b b' : Int → UInt32} {c : Int → UInt64} {d : Int → UInt32} {e e' : Int → Int} : wF (wD (wI (oH σ a b c d e) 86 e') 80 a') 81 b' = oH σ a' b' c d e' := by
  unfold oH
  apply hp_ext <;> intro x <;> simp only [hI_wI, hI_wL, hI_wF, hI_wD, hL_wI, hL_wL, hL_wF, hL_wD, hF_wI, hF_wL, hF_wF, hF_wD, hD_wI, hD_wL, hD_wF, hD_wD]
  · by_cases h1 : x = 86 <;> simp_all
  · by_cases h1 : x = 81 <;> by_cases h2 : x = 85 <;> simp_all
  · by_cases h1 : x = 80 <;> by_cases h2 : x = 84 <;> simp_all
def siH (σ : Hp) (i : Nat) (k : Int) : Hp := wF (wD (otH σ i) 84 (shk (hD (otH σ i) 84) i k)) 85 (shk (hF (otH σ i) 85) i k)
theorem siH_0 {i : Nat} : siH σ i 0 = otH σ i := by unfold siH; rw [shk_0, shk_0, wD_id]; exact wF_id _ 85
theorem oth_fs {f : Int → Int} {i x : Int} : hI (wI σ 86 (fup f i x)) 86 i = x := by rw [hI_wI, if_pos rfl, fup_s]
theorem oth_fs2 {f : Int → UInt64} {i : Int} {x : UInt64} : hD (wD σ 80 (fup f i x)) 80 i = x := by rw [hD_wD, if_pos rfl, fup_s]
theorem cM_others {N : Nat} (hN : hI σ 69 0 = N ∧ N ≤ 20) (hc : ∀ m : Int, 0 ≤ m → m < N → inR (hI σ 70 m) ∧ (hI σ 70 m = 11 → 1 ≤ nnR σ m ∧ nnR σ m ≤ 16)) (hQ : Q none (otH σ N)) : Sp mM_others [vR 69] σ Q := by
  obtain ⟨hN, hN2⟩ := hN
  have loop : ∀ (n i : Nat), i ≤ N → N + 1 ≤ i + n → J mM_others 2 [(0, vR 69), (1, vI i)] [] (otH σ i) Q := by
    intro n
    induction n with
    | zero => intro i h1 h2; exact absurd h2 (by omega)
    | succ n ih =>
      intro i h1 h2
      have eN : hI (otH σ i) 69 0 = N := hN
      have eK : hI (otH σ i) 70 = hI σ 70 := rfl
      have hci : i < N → inR (hI σ 70 i) ∧ (hI σ 70 i = 11 → 1 ≤ nnR σ i ∧ nnR σ i ≤ 16) := fun h => hc i (by omega) (by omega)
      have ih2 : i < N → J mM_others 2 [(0, vR 69), (1, vI (i + 1))] [] (otH σ (i + 1)) Q := fun h => ih (i + 1) (by omega) (by omega)
      have trk : hI σ 70 i = 3 → otH σ (i + 1) = wF (wD (otH σ i) 80 (fup (hD (otH σ i) 80) i (hD σ 113 i))) 81 (fup (hF (otH σ i) 81) i (hF σ 114 i)) := fun hk => by
        unfold otH
        rw [oH_st, ← pw_s, ← pw_s, ← rowS_n (by omega), ← rowS_n (by omega), ← pw_k (f := hI σ 86) (if_neg (by omega))]
        have e1 : othS (hI σ 70) (hD σ 113) (hD σ 80) (fun m => nz (sdS (hI σ 70) (hI σ 86) m)) i = hD σ 113 i := if_pos hk
        have e2 : othS (hI σ 70) (hF σ 114) (hF σ 81) (fun m => FP.d2f (nz (sdS (hI σ 70) (hI σ 86) m))) i = hF σ 114 i := if_pos hk
        rw [e1, e2]
        rfl
      have non : ¬ hI σ 70 i = 3 → ¬ hI σ 70 i = 11 → ¬ hI σ 70 i = 13 → otH σ i = otH σ (i + 1) := fun hk hk2 hk3 => by
        unfold otH
        rw [rowS_n (i := i) hk2, rowS_n (i := i) hk2, pw_k (i := i) (f := hI σ 86) (if_neg hk3), pw_k (i := i) (f := hD σ 80) (by unfold othS; rw [if_neg hk, if_neg hk3]), pw_k (i := i) (f := hF σ 81) (by unfold othS; rw [if_neg hk, if_neg hk3])]
      have noi : hI σ 70 i = 13 → otH σ (i + 1) = wF (wD (wI (otH σ i) 86 (fup (hI (otH σ i) 86) i (1664525 * hI σ 86 i + 1013904223))) 80 (fup (hD (otH σ i) 80) i (nz (1664525 * hI σ 86 i + 1013904223)))) 81 (fup (hF (otH σ i) 81) i (FP.d2f (nz (1664525 * hI σ 86 i + 1013904223)))) := fun hk => by
        unfold otH
        rw [oH_sd, ← pw_s, ← pw_s, ← rowS_n (by omega), ← rowS_n (by omega), ← pw_s]
        have e0 : sdS (hI σ 70) (hI σ 86) i = 1664525 * hI σ 86 i + 1013904223 := if_pos hk
        have e1 : othS (hI σ 70) (hD σ 113) (hD σ 80) (fun m => nz (sdS (hI σ 70) (hI σ 86) m)) i = nz (sdS (hI σ 70) (hI σ 86) i) := by unfold othS; rw [if_neg (by omega), if_pos hk]
        have e2 : othS (hI σ 70) (hF σ 114) (hF σ 81) (fun m => FP.d2f (nz (sdS (hI σ 70) (hI σ 86) m))) i = FP.d2f (nz (sdS (hI σ 70) (hI σ 86) i)) := by unfold othS; rw [if_neg (by omega), if_pos hk]
        rw [e1, e2, e0]
        rfl
      have eS : hI (otH σ i) 86 i = hI σ 86 i := by
        show pw (hI σ 86) (sdS (hI σ 70) (hI σ 86)) i i = _
        rw [pw_at]
      have nS : ∀ (nn : Int), hI σ 70 i = 11 → nn = nnR σ i → i < N → ∀ (n2 k : Nat), (k : Int) ≤ nn - 1 → nn ≤ k + n2 → J mM_others 68 [(0, vR 69), (1, vI i), (2, vI nn), (3, vI k)] [] (siH σ i k) Q := by
        intro nn hk hnn hi n2
        have hb := (hci hi).2 hk
        have ih3 := ih2 hi
        have dly : otH σ (i + 1) = wF (wD (siH σ i (nn - 1)) 84 (fup (hD (siH σ i (nn - 1)) 84) (16 * i + nn - 1) (hD σ 113 i))) 85 (fup (hF (siH σ i (nn - 1)) 85) (16 * i + nn - 1) (hF σ 114 i)) := by
          have e1 : hD (siH σ i (nn - 1)) 84 = shk (hD (otH σ i) 84) i (nn - 1) := rfl
          have e2 : hF (siH σ i (nn - 1)) 85 = shk (hF (otH σ i) 85) i (nn - 1) := rfl
          rw [e1, e2, shk_e, shk_e]
          unfold siH
          rw [wDF_s]
          unfold otH
          rw [oH_rw, hnn, rowS_y hk hb, rowS_y hk hb, ← pw_k (f := hI σ 86) (if_neg (by omega)), ← pw_k (f := hD σ 80) (by unfold othS; rw [if_neg (by omega), if_neg (by omega)]), ← pw_k (f := hF σ 81) (by unfold othS; rw [if_neg (by omega), if_neg (by omega)])]
          rfl
        induction n2 with
        | zero => intro k h3 h4; exact absurd h4 (by omega)
        | succ n2 ih4 =>
          intro k h3 h4
          have stp : siH σ i ((k : Int) + 1) = wF (wD (siH σ i k) 84 (fup (hD (siH σ i k) 84) (16 * i + k) (hD (siH σ i k) 84 (16 * i + k + 1)))) 85 (fup (hF (siH σ i k) 85) (16 * i + k) (hF (siH σ i k) 85 (16 * i + k + 1))) := by
            have e1 : hD (siH σ i k) 84 = shk (hD (otH σ i) 84) i k := rfl
            have e2 : hF (siH σ i k) 85 = shk (hF (otH σ i) 85) i k := rfl
            rw [e1, e2, shk_s (by omega), shk_s (by omega)]
            unfold siH
            rw [wDF_s]
          have ih5 : (k : Int) + 1 ≤ nn - 1 → J mM_others 68 [(0, vR 69), (1, vI i), (2, vI nn), (3, vI (k + 1))] [] (siH σ i ((k : Int) + 1)) Q := fun h => ih4 (k + 1) (by omega) (by omega)
          refine j_iload_n (p2 := 69) dM_others_68 rfl rfl ?_
          refine j_iload_n (p2 := 70) dM_others_69 rfl rfl ?_
          refine j_iconst (p2 := 71) dM_others_70 rfl ?_
          refine j_isub (p2 := 72) dM_others_71 rfl ?_
          refine j_icmp_ge (p2 := 75) (tg := 129) dM_others_72 rfl (by decide) (by constructor <;> omega) (by constructor <;> omega) (fun h72 => ?_) (fun h72 => ?_)
          · refine j_aload_n (p2 := 130) dM_others_129 rfl rfl ?_
            refine j_getR (p2 := 133) dM_others_130 rfl fa_M_59 ly_69 rfl ?_
            refine j_bipush (v := 16) (p2 := 135) dM_others_133 rfl rfl ?_
            refine j_iload_n (p2 := 136) dM_others_135 rfl rfl ?_
            refine j_imul (p2 := 137) dM_others_136 rfl ?_
            refine j_iload_n (p2 := 138) dM_others_137 rfl rfl ?_
            refine j_iadd (p2 := 139) dM_others_138 rfl ?_
            refine j_iconst (p2 := 140) dM_others_139 rfl ?_
            refine j_isub (p2 := 141) dM_others_140 rfl ?_
            refine j_aload_n (p2 := 142) dM_others_141 rfl rfl ?_
            refine j_getR (p2 := 145) dM_others_142 rfl fa_M_146 ly_69 rfl ?_
            refine j_iload_n (p2 := 146) dM_others_145 rfl rfl ?_
            refine j_dald (p2 := 147) dM_others_146 rfl ly_113 (by decide) (by omega) (by omega) ?_
            refine j_dastk (p2 := 148) dM_others_147 rfl ly_84 (by decide) (by omega) (by omega) ?_
            refine j_aload_n (p2 := 149) dM_others_148 rfl rfl ?_
            refine j_getR (p2 := 152) dM_others_149 rfl fa_M_62 ly_69 rfl ?_
            refine j_bipush (v := 16) (p2 := 154) dM_others_152 rfl rfl ?_
            refine j_iload_n (p2 := 155) dM_others_154 rfl rfl ?_
            refine j_imul (p2 := 156) dM_others_155 rfl ?_
            refine j_iload_n (p2 := 157) dM_others_156 rfl rfl ?_
            refine j_iadd (p2 := 158) dM_others_157 rfl ?_
            refine j_iconst (p2 := 159) dM_others_158 rfl ?_
            refine j_isub (p2 := 160) dM_others_159 rfl ?_
            refine j_aload_n (p2 := 161) dM_others_160 rfl rfl ?_
            refine j_getR (p2 := 164) dM_others_161 rfl fa_M_149 ly_69 rfl ?_
            refine j_iload_n (p2 := 165) dM_others_164 rfl rfl ?_
            refine j_fald (p2 := 166) dM_others_165 rfl ly_114 (by decide) (by omega) (by omega) ?_
            refine j_fastk (p2 := 167) dM_others_166 rfl ly_85 (by decide) (by omega) (by omega) ?_
            refine j_goto (p2 := 231) dM_others_167 (by decide) ?_
            refine j_iinc (p2 := 234) (lv' := [(0, _), (1, _)]) dM_others_231 rfl (Nat.le_of_ble_eq_true rfl) rfl ⟨rfl, rfl, trivial⟩ ?_
            refine j_goto (p2 := 2) dM_others_234 (by decide) ?_
            refine J.loc (lv' := [(0, _), (1, _)]) ⟨rfl, rfl, trivial⟩ ?_
            have e : (k : Int) = nn - 1 := by omega
            rw [e]
            exact ih3.hp dly
          · refine j_aload_n (p2 := 76) dM_others_75 rfl rfl ?_
            refine j_getR (p2 := 79) dM_others_76 rfl fa_M_59 ly_69 rfl ?_
            refine j_bipush (v := 16) (p2 := 81) dM_others_79 rfl rfl ?_
            refine j_iload_n (p2 := 82) dM_others_81 rfl rfl ?_
            refine j_imul (p2 := 83) dM_others_82 rfl ?_
            refine j_iload_n (p2 := 84) dM_others_83 rfl rfl ?_
            refine j_iadd (p2 := 85) dM_others_84 rfl ?_
            refine j_aload_n (p2 := 86) dM_others_85 rfl rfl ?_
            refine j_getR (p2 := 89) dM_others_86 rfl fa_M_59 ly_69 rfl ?_
            refine j_bipush (v := 16) (p2 := 91) dM_others_89 rfl rfl ?_
            refine j_iload_n (p2 := 92) dM_others_91 rfl rfl ?_
            refine j_imul (p2 := 93) dM_others_92 rfl ?_
            refine j_iload_n (p2 := 94) dM_others_93 rfl rfl ?_
            refine j_iadd (p2 := 95) dM_others_94 rfl ?_
            refine j_iconst (p2 := 96) dM_others_95 rfl ?_
            refine j_iadd (p2 := 97) dM_others_96 rfl ?_
            refine j_dald (p2 := 98) dM_others_97 rfl ly_84 (by decide) (by omega) (by omega) ?_
            refine j_dastk (p2 := 99) dM_others_98 rfl ly_84 (by decide) (by omega) (by omega) ?_
            refine j_aload_n (p2 := 100) dM_others_99 rfl rfl ?_
            refine j_getR (p2 := 103) dM_others_100 rfl fa_M_62 ly_69 rfl ?_
            refine j_bipush (v := 16) (p2 := 105) dM_others_103 rfl rfl ?_
            refine j_iload_n (p2 := 106) dM_others_105 rfl rfl ?_
            refine j_imul (p2 := 107) dM_others_106 rfl ?_
            refine j_iload_n (p2 := 108) dM_others_107 rfl rfl ?_
            refine j_iadd (p2 := 109) dM_others_108 rfl ?_
            refine j_aload_n (p2 := 110) dM_others_109 rfl rfl ?_
            refine j_getR (p2 := 113) dM_others_110 rfl fa_M_62 ly_69 rfl ?_
            refine j_bipush (v := 16) (p2 := 115) dM_others_113 rfl rfl ?_
            refine j_iload_n (p2 := 116) dM_others_115 rfl rfl ?_
            refine j_imul (p2 := 117) dM_others_116 rfl ?_
            refine j_iload_n (p2 := 118) dM_others_117 rfl rfl ?_
            refine j_iadd (p2 := 119) dM_others_118 rfl ?_
            refine j_iconst (p2 := 120) dM_others_119 rfl ?_
            refine j_iadd (p2 := 121) dM_others_120 rfl ?_
            refine j_fald (p2 := 122) dM_others_121 rfl ly_85 (by decide) (by omega) (by omega) ?_
            refine j_fastk (p2 := 123) dM_others_122 rfl ly_85 (by decide) (by omega) (by omega) ?_
            refine j_iinc (p2 := 126) (lv' := [(0, _), (1, _), (2, _), (3, _)]) dM_others_123 rfl (Nat.le_of_ble_eq_true rfl) rfl ⟨rfl, rfl, rfl, rfl, trivial⟩ ?_
            refine j_goto (p2 := 68) dM_others_126 (by decide) ?_
            refine J.loc (lv' := [(0, _), (1, _), (2, _), (3, _)]) ⟨rfl, rfl, rfl, rfl, trivial⟩ ?_
            exact (ih5 (by omega)).hp stp
      refine j_iload_n (p2 := 3) dM_others_2 rfl rfl ?_
      refine j_aload_n (p2 := 4) dM_others_3 rfl rfl ?_
      refine j_getIk (p2 := 7) dM_others_4 rfl fa_M_158 ly_69 rfl (ki := 0) rfl ?_
      refine j_icmp_ge (p2 := 10) (tg := 237) dM_others_7 rfl (by decide) (by constructor <;> omega) (by rw [eN]; constructor <;> omega) (fun h7 => ?_) (fun h7 => ?_)
      · refine j_return dM_others_237 rfl (by rw [eN] at h7; have e : i = N := (by omega); subst e; exact hQ)
      · refine j_aload_n (p2 := 11) dM_others_10 rfl rfl ?_
        refine j_getR (p2 := 14) dM_others_11 rfl fa_M_7 ly_69 rfl ?_
        refine j_iload_n (p2 := 15) dM_others_14 rfl rfl ?_
        refine j_iald (p2 := 16) dM_others_15 rfl ly_70 (by decide) (by omega) (by rw [eN] at h7; omega) ?_
        refine j_iconst (p2 := 17) dM_others_16 rfl ?_
        refine j_icmp_ne (p2 := 20) (tg := 47) dM_others_17 rfl (by decide) (by rw [eN] at h7; rw [eK]; exact (hci (by omega)).1) (by constructor <;> omega) (fun h17 => ?_) (fun h17 => ?_)
        · refine j_aload_n (p2 := 48) dM_others_47 rfl rfl ?_
          refine j_getR (p2 := 51) dM_others_48 rfl fa_M_7 ly_69 rfl ?_
          refine j_iload_n (p2 := 52) dM_others_51 rfl rfl ?_
          refine j_iald (p2 := 53) dM_others_52 rfl ly_70 (by decide) (by omega) (by rw [eN] at h7; omega) ?_
          refine j_bipush (v := 11) (p2 := 55) dM_others_53 rfl rfl ?_
          refine j_icmp_ne (p2 := 58) (tg := 170) dM_others_55 rfl (by decide) (by rw [eN] at h7; rw [eK]; exact (hci (by omega)).1) (by constructor <;> omega) (fun h55 => ?_) (fun h55 => ?_)
          · refine j_aload_n (p2 := 171) dM_others_170 rfl rfl ?_
            refine j_getR (p2 := 174) dM_others_171 rfl fa_M_7 ly_69 rfl ?_
            refine j_iload_n (p2 := 175) dM_others_174 rfl rfl ?_
            refine j_iald (p2 := 176) dM_others_175 rfl ly_70 (by decide) (by omega) (by rw [eN] at h7; omega) ?_
            refine j_bipush (v := 13) (p2 := 178) dM_others_176 rfl rfl ?_
            refine j_icmp_ne (p2 := 181) (tg := 231) dM_others_178 rfl (by decide) (by rw [eN] at h7; rw [eK]; exact (hci (by omega)).1) (by constructor <;> omega) (fun h178 => ?_) (fun h178 => ?_)
            · refine j_iinc (p2 := 234) (lv' := [(0, _), (1, _)]) dM_others_231 rfl (Nat.le_of_ble_eq_true rfl) rfl ⟨rfl, rfl, trivial⟩ ?_
              refine j_goto (p2 := 2) dM_others_234 (by decide) ?_
              refine J.loc (lv' := [(0, _), (1, _)]) ⟨rfl, rfl, trivial⟩ ?_
              rw [eN] at h7
              rw [eK] at h17
              first
                | exact (ih2 (by omega)).hp (trk (by omega))
                | (rw [eK] at h55 h178
                   exact (ih2 (by omega)).hp (non (by omega) (by omega) (by omega)).symm)
            · refine J.loc (lv' := [(0, _), (1, _)]) ⟨rfl, rfl, trivial⟩ ?_
              rw [eN] at h7
              rw [eK] at h178
              refine j_aload_n (p2 := 182) dM_others_181 rfl rfl ?_
              refine j_getR (p2 := 185) dM_others_182 rfl fa_M_65 ly_69 rfl ?_
              refine j_iload_n (p2 := 186) dM_others_185 rfl rfl ?_
              refine j_ldcw (p2 := 189) dM_others_186 rfl cw_M_328 ?_
              refine j_aload_n (p2 := 190) dM_others_189 rfl rfl ?_
              refine j_getR (p2 := 193) dM_others_190 rfl fa_M_65 ly_69 rfl ?_
              refine j_iload_n (p2 := 194) dM_others_193 rfl rfl ?_
              refine j_iald (p2 := 195) dM_others_194 rfl ly_86 (by decide) (by omega) (by omega) ?_
              refine j_imul (p2 := 196) dM_others_195 rfl ?_
              refine j_ldcw (p2 := 199) dM_others_196 rfl cw_M_329 ?_
              refine j_iadd (p2 := 200) dM_others_199 rfl ?_
              refine j_iastk (p2 := 201) dM_others_200 rfl ly_86 (by decide) (by omega) (by omega) ?_
              refine j_aload_n (p2 := 202) dM_others_201 rfl rfl ?_
              refine j_getR (p2 := 205) dM_others_202 rfl fa_M_46 ly_69 rfl ?_
              refine j_iload_n (p2 := 206) dM_others_205 rfl rfl ?_
              refine j_aload_n (p2 := 207) dM_others_206 rfl rfl ?_
              refine j_getR (p2 := 210) dM_others_207 rfl fa_M_65 ly_69 rfl ?_
              refine j_iload_n (p2 := 211) dM_others_210 rfl rfl ?_
              refine j_iald (p2 := 212) dM_others_211 rfl ly_86 (by decide) (by omega) (by omega) ?_
              refine j_i2d (p2 := 213) dM_others_212 rfl ?_
              refine j_ldc2d (p2 := 216) dM_others_213 rfl cw_M_330 ?_
              refine j_ddiv (p2 := 217) dM_others_216 rfl (by rw [oth_fs]; exact (mg_15 (nz_15 _)).nn (by decide)) ?_
              refine j_dastk (p2 := 218) dM_others_217 rfl ly_80 (by decide) (by omega) (by omega) ?_
              refine j_aload_n (p2 := 219) dM_others_218 rfl rfl ?_
              refine j_getR (p2 := 222) dM_others_219 rfl fa_M_49 ly_69 rfl ?_
              refine j_iload_n (p2 := 223) dM_others_222 rfl rfl ?_
              refine j_aload_n (p2 := 224) dM_others_223 rfl rfl ?_
              refine j_getR (p2 := 227) dM_others_224 rfl fa_M_46 ly_69 rfl ?_
              refine j_iload_n (p2 := 228) dM_others_227 rfl rfl ?_
              refine j_dald (p2 := 229) dM_others_228 rfl ly_80 (by decide) (by omega) (by omega) ?_
              refine j_d2f (p2 := 230) dM_others_229 rfl (by rw [oth_fs2]; exact d2f_nn ((mg_15 (nz_15 _)).nn (by decide))) ?_
              refine j_fastk (p2 := 231) dM_others_230 rfl ly_81 (by decide) (by omega) (by omega) ?_
              refine j_iinc (p2 := 234) (lv' := [(0, _), (1, _)]) dM_others_231 rfl (Nat.le_of_ble_eq_true rfl) rfl ⟨rfl, rfl, trivial⟩ ?_
              refine j_goto (p2 := 2) dM_others_234 (by decide) ?_
              refine J.loc (lv' := [(0, _), (1, _)]) ⟨rfl, rfl, trivial⟩ ?_
              have ih3 := ih2 (by omega)
              rw [noi (by omega)] at ih3
              rw [oth_fs, oth_fs2, eS]
              exact ih3
          · refine j_aload_n (p2 := 59) dM_others_58 rfl rfl ?_
            refine j_getR (p2 := 62) dM_others_59 rfl fa_M_13 ly_69 rfl ?_
            refine j_iload_n (p2 := 63) dM_others_62 rfl rfl ?_
            refine j_dald (p2 := 64) dM_others_63 rfl ly_71 (by decide) (by omega) (by rw [eN] at h7; omega) ?_
            refine j_d2i (p2 := 65) dM_others_64 rfl ?_
            refine j_istore_n (p2 := 66) (lv' := [(0, _), (1, _), (2, _)]) dM_others_65 rfl (Nat.le_of_ble_eq_true rfl) ⟨rfl, rfl, rfl, trivial⟩ ?_
            refine j_iconst (p2 := 67) dM_others_66 rfl ?_
            refine j_istore_n (p2 := 68) (lv' := [(0, _), (1, _), (2, _), (3, _)]) dM_others_67 rfl (Nat.le_of_ble_eq_true rfl) ⟨rfl, rfl, rfl, rfl, trivial⟩ ?_
            refine J.loc (lv' := [(0, _), (1, _), (2, _), (3, _)]) ⟨rfl, rfl, rfl, rfl, trivial⟩ ?_
            rw [eN] at h7
            rw [eK] at h55
            exact (nS _ (by omega) rfl (by omega) 17 0 (by have := (hci (by omega)).2 (by omega); unfold nnR at this; omega) (by have := (hci (by omega)).2 (by omega); unfold nnR at this; omega)).hp siH_0
        · refine j_aload_n (p2 := 21) dM_others_20 rfl rfl ?_
          refine j_getR (p2 := 24) dM_others_21 rfl fa_M_46 ly_69 rfl ?_
          refine j_iload_n (p2 := 25) dM_others_24 rfl rfl ?_
          refine j_aload_n (p2 := 26) dM_others_25 rfl rfl ?_
          refine j_getR (p2 := 29) dM_others_26 rfl fa_M_146 ly_69 rfl ?_
          refine j_iload_n (p2 := 30) dM_others_29 rfl rfl ?_
          refine j_dald (p2 := 31) dM_others_30 rfl ly_113 (by decide) (by omega) (by rw [eN] at h7; omega) ?_
          refine j_dastk (p2 := 32) dM_others_31 rfl ly_80 (by decide) (by omega) (by rw [eN] at h7; omega) ?_
          refine j_aload_n (p2 := 33) dM_others_32 rfl rfl ?_
          refine j_getR (p2 := 36) dM_others_33 rfl fa_M_49 ly_69 rfl ?_
          refine j_iload_n (p2 := 37) dM_others_36 rfl rfl ?_
          refine j_aload_n (p2 := 38) dM_others_37 rfl rfl ?_
          refine j_getR (p2 := 41) dM_others_38 rfl fa_M_149 ly_69 rfl ?_
          refine j_iload_n (p2 := 42) dM_others_41 rfl rfl ?_
          refine j_fald (p2 := 43) dM_others_42 rfl ly_114 (by decide) (by omega) (by rw [eN] at h7; omega) ?_
          refine j_fastk (p2 := 44) dM_others_43 rfl ly_81 (by decide) (by omega) (by rw [eN] at h7; omega) ?_
          refine j_goto (p2 := 231) dM_others_44 (by decide) ?_
          refine j_iinc (p2 := 234) (lv' := [(0, _), (1, _)]) dM_others_231 rfl (Nat.le_of_ble_eq_true rfl) rfl ⟨rfl, rfl, trivial⟩ ?_
          refine j_goto (p2 := 2) dM_others_234 (by decide) ?_
          refine J.loc (lv' := [(0, _), (1, _)]) ⟨rfl, rfl, trivial⟩ ?_
          rw [eN] at h7
          rw [eK] at h17
          first
            | exact (ih2 (by omega)).hp (trk (by omega))
            | (rw [eK] at h55 h178
               exact (ih2 (by omega)).hp (non (by omega) (by omega) (by omega)).symm)
  refine j_iconst (p2 := 1) dM_others_0 rfl ?_
  refine j_istore_n (p2 := 2) (lv' := [(0, _), (1, _)]) dM_others_1 rfl (Nat.le_of_ble_eq_true rfl) ⟨rfl, rfl, trivial⟩ ?_
  refine J.loc (lv' := [(0, _), (1, _)]) ⟨rfl, rfl, trivial⟩ ?_
  exact (loop (N + 1) 0 (by omega) (by omega)).hp otH_0
end REF9
