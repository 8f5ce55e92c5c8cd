/-! ===== the reference: run ===== -/
def rnR (N S : Nat) : Nat → Hp → Int → Int × Hp
  | 0, σ, n => (n, σ)
  | f + 1, σ, n => match fnd (fun m => decide (hI σ 78 m = hI σ 69 12 + 1)) N 0 with
    | some m => (-1000 - m, σ)
    | none => rnR N S f (oneH σ N S) n
/-- what f more steps need -/
abbrev RnI (σ : Hp) (N S : Nat) (f : Nat) : Prop := WS σ N ∧ Zr σ N ∧ mg (hD σ 69 45) 1023 ∧ (0 ≤ hI σ 69 13 ∧ hI σ 69 13 ≤ 2) ∧ (hI σ 69 37 = S ∧ S ≤ 6) ∧ (0 ≤ hI σ 69 12 ∧ hI σ 69 12 + f ≤ 300) ∧ (∀ m : Int, 0 ≤ m → m < N → inR (hI σ 78 m)) ∧ ∀ s : Int, 0 ≤ s → s < S → (0 ≤ hI σ 101 s ∧ hI σ 101 s + f ≤ 120) ∧ (0 ≤ hI σ 100 s ∧ hI σ 100 s < 20)
section REF30
variable {σ : Hp} {Q : Option PV → Hp → Prop} {N S : Nat}
theorem lt_W (h : WS σ N) (ht : inR (hI σ 69 12 + 1)) : WS (ltH σ) N := by
  obtain ⟨⟨a1, a2, a3, a4, a5, a6, a7⟩, b2, b3⟩ := h
  refine ⟨⟨?_, a2, a3, a4, ?_, a6, a7⟩, b2, b3⟩
  · show fup (hI σ 69) 44 (hI σ 69 12 + 1) 0 = N
    rw [fup_n (by decide)]; exact a1
  · show inR (fup (hI σ 69) 44 (hI σ 69 12 + 1) 44)
    rw [fup_s]; exact ht
theorem sp_W (h : WS σ N) : WS (spH σ) N := by
  obtain ⟨⟨a1, a2, a3, a4, a5, a6, a7⟩, b2, b3⟩ := h
  refine ⟨⟨?_, a2, a3, a4, ?_, a6, a7⟩, b2, b3⟩
  · show fup (hI σ 69) 15 (hI σ 69 15 + 1) 0 = N
    rw [fup_n (by decide)]; exact a1
  · show inR (fup (hI σ 69) 15 (hI σ 69 15 + 1) 44)
    rw [fup_n (by decide)]; exact a5
theorem ts_W (h : WS σ N) : WS (tsH σ S) N := h
theorem ts_Z (h : Zr σ N) : Zr (tsH σ S) N := h
theorem sp_Z (h : Zr σ N) : Zr (spH σ) N := h
theorem lt_Z (h : Zr σ N) : Zr (ltH σ) N := h
theorem rn_next {f : Nat} (h : RnI σ N S (f + 1)) (w : WT (stepH (ltH σ) N) N) : RnI (oneH σ N S) N S f := by
  obtain ⟨h1, h2, h3, h4, h5, h6, h7, h8⟩ := h
  have eI := oneH_69I (σ := σ) (N := N) (S := S)
  have eD : hD (oneH σ N S) 69 = hD σ 69 := by
    have e : hD (oneH σ N S) 69 = hD (stepH (ltH σ) N) 69 := rfl
    rw [e, stepH_69D]; rfl
  have e78 : hI (oneH σ N S) 78 = hI σ 78 := by
    have e : hI (oneH σ N S) 78 = hI (stepH (ltH σ) N) 78 := rfl
    rw [e, stepH_I78]; rfl
  have e100 : hI (oneH σ N S) 100 = hI σ 100 := by
    have e : hI (oneH σ N S) 100 = hI (stepH (ltH σ) N) 100 := rfl
    rw [e, stepH_I100]; rfl
  have e101 : ∀ s : Int, 0 ≤ s → s < S → hI (oneH σ N S) 101 s = hI σ 101 s + 1 := fun s a b => by
    have e : hI (oneH σ N S) 101 s = hI (stepH (ltH σ) N) 101 s + 1 := pw_lo (f := hI (stepH (ltH σ) N) 101) (g := fun s => hI (stepH (ltH σ) N) 101 s + 1) a b
    rw [e, stepH_I101]; rfl
  refine ⟨ts_W (sp_W w.1), ts_Z (sp_Z w.2.1), by rw [eD]; exact h3, ?_, ?_, ?_, fun m a b => by rw [e78]; exact h7 m a b, fun s a b => ?_⟩
  · rw [eI, fup_n (by decide), fup_n (by decide), fup_n (by decide)]; exact h4
  · rw [eI, fup_n (by decide), fup_n (by decide), fup_n (by decide)]; exact h5
  · rw [eI, fup_n (by decide), fup_s]; omega
  · rw [e101 s a b, e100]; have := h8 s a b; omega
theorem rn_loop {n : Nat} (hn : n ≤ 100) : ∀ (f k : Nat) (σ : Hp), k + f = n → RnI σ N S f → Q (some (vI (rnR N S f σ n).1)) (rnR N S f σ n).2 → J mM_run 89 [(0, vR 69), (1, vI n), (2, vI k)] [] σ Q := by
  intro f
  induction f with
  | zero =>
    intro k σ h1 hi hq
    refine j_iload_n (p2 := 90) dM_run_89 rfl rfl ?_
    refine j_iload_n (p2 := 91) dM_run_90 rfl rfl ?_
    refine j_icmp_ge (p2 := 94) (tg := 165) dM_run_91 rfl (by decide) (by constructor <;> omega) (by constructor <;> omega) (fun h91 => ?_) (fun h91 => ?_)
    · refine j_iload_n (p2 := 166) dM_run_165 rfl rfl ?_
      refine j_ireturn dM_run_166 rfl (by exact hq)
    · refine J.loc (lv' := [(0, _), (1, _), (2, _)]) ⟨rfl, rfl, rfl, trivial⟩ ?_
      exfalso
      omega
  | succ f ih =>
    intro k σ h1 hi hq
    have hi2 := hi
    obtain ⟨g1, g2, g3, g4, g5, g6, g7, g8⟩ := hi2
    have hN := g1.1.1
    have hN2 := g1.1.2.1
    have w0 := lt_W g1 (by constructor <;> omega)
    have z0 := lt_Z g2
    have go : Q (some (vI (rnR N S f (oneH σ N S) n).1)) (rnR N S f (oneH σ N S) n).2 → J mM_run 131 [(0, vR 69), (1, vI n), (2, vI k)] [] σ Q := by
      intro hq2
      refine j_aload_n (p2 := 132) dM_run_131 rfl rfl ?_
      refine j_aload_n (p2 := 133) dM_run_132 rfl rfl ?_
      refine j_getIk (p2 := 136) dM_run_133 rfl fa_M_322 ly_69 rfl (ki := 12) rfl ?_
      refine j_iconst (p2 := 137) dM_run_136 rfl ?_
      refine j_iadd (p2 := 138) dM_run_137 rfl ?_
      refine j_putIk (p2 := 141) dM_run_138 rfl fw_M_233 ly_69 rfl (ki := 44) rfl ?_
      refine j_aload_n (p2 := 142) dM_run_141 rfl rfl ?_
      refine j_callV (m' := mM_step) (As := []) (p2 := 145) dM_run_142 rfl ml_M_347 ok_mM_step im_mM_step se_mM_step rfl rfl (Nat.le_of_ble_eq_true rfl) ly_69 rfl (Nat.le_of_ble_eq_true rfl) ⟨(Nat.le_of_ble_eq_true rfl), (Nat.le_of_ble_eq_true rfl)⟩ ?_
      refine cM_step (σ := ltH σ) w0 z0 g3 ?_ (fun w => ?_)
      · show 0 ≤ fup (hI σ 69) 44 (hI σ 69 12 + 1) 13 ∧ fup (hI σ 69) 44 (hI σ 69 12 + 1) 13 ≤ 2
        rw [fup_n (by decide)]; exact g4
      have hnx := rn_next hi w
      refine j_aload_n (p2 := 146) dM_run_145 rfl rfl ?_
      refine j_dup (p2 := 147) dM_run_146 rfl rfl ?_
      refine j_getIk (p2 := 150) dM_run_147 rfl fa_M_350 ly_69 rfl (ki := 15) rfl ?_
      refine j_iconst (p2 := 151) dM_run_150 rfl ?_
      refine j_iadd (p2 := 152) dM_run_151 rfl ?_
      refine j_putIk (p2 := 155) dM_run_152 rfl fw_M_350 ly_69 rfl (ki := 15) rfl ?_
      refine j_aload_n (p2 := 156) dM_run_155 rfl rfl ?_
      refine j_callV (m' := mM_toStrips) (As := []) (p2 := 159) dM_run_156 rfl ml_M_341 ok_mM_toStrips im_mM_toStrips se_mM_toStrips rfl rfl (Nat.le_of_ble_eq_true rfl) ly_69 rfl (Nat.le_of_ble_eq_true rfl) ⟨(Nat.le_of_ble_eq_true rfl), (Nat.le_of_ble_eq_true rfl)⟩ ?_
      refine cM_toStrips (σ := spH (stepH (ltH σ) N)) (N := S) ⟨?_, g5.2⟩ (fun s a b => ?_) ?_
      · have e : hI (spH (stepH (ltH σ) N)) 69 = fup (hI (stepH (ltH σ) N) 69) 15 (hI (stepH (ltH σ) N) 69 15 + 1) := rfl
        rw [e, fup_n (by decide), stepH_69I, fup_n (by decide)]
        show fup (hI σ 69) 44 (hI σ 69 12 + 1) 37 = S
        rw [fup_n (by decide)]; exact g5.1
      · have e1 : hI (spH (stepH (ltH σ) N)) 101 = hI σ 101 := by
          have e : hI (spH (stepH (ltH σ) N)) 101 = hI (stepH (ltH σ) N) 101 := rfl
          rw [e, stepH_I101]; rfl
        have e2 : hI (spH (stepH (ltH σ) N)) 100 = hI σ 100 := by
          have e : hI (spH (stepH (ltH σ) N)) 100 = hI (stepH (ltH σ) N) 100 := rfl
          rw [e, stepH_I100]; rfl
        rw [e1, e2]; have := g8 s a b; omega
      refine j_iinc (p2 := 162) (lv' := [(0, _), (1, _), (2, _)]) dM_run_159 rfl (Nat.le_of_ble_eq_true rfl) rfl ⟨rfl, rfl, rfl, trivial⟩ ?_
      refine j_goto (p2 := 89) dM_run_162 (by decide) ?_
      refine J.loc (lv' := [(0, _), (1, _), (2, _)]) ⟨rfl, rfl, rfl, trivial⟩ ?_
      exact ih (k + 1) _ (by omega) hnx hq2
    have inner : ∀ (d i : Nat), i + d = N → (∀ r, r = (match fnd (fun m => decide (hI σ 78 m = hI σ 69 12 + 1)) d i with | some m => (-1000 - m, σ) | none => rnR N S f (oneH σ N S) n) → Q (some (vI r.1)) r.2) → J mM_run 96 [(0, vR 69), (1, vI n), (2, vI k), (3, vI i)] [] σ Q := by
      intro d
      induction d with
      | zero =>
        intro i a hq2
        refine j_iload_n (p2 := 97) dM_run_96 rfl rfl ?_
        refine j_aload_n (p2 := 98) dM_run_97 rfl rfl ?_
        refine j_getIk (p2 := 101) dM_run_98 rfl fa_M_158 ly_69 rfl (ki := 0) rfl ?_
        refine j_icmp_ge (p2 := 104) (tg := 131) dM_run_101 rfl (by decide) (by constructor <;> omega) (by constructor <;> omega) (fun h101 => ?_) (fun h101 => ?_)
        · refine J.loc (lv' := [(0, _), (1, _), (2, _)]) ⟨rfl, rfl, rfl, trivial⟩ ?_
          exact go (hq2 _ rfl)
        · refine J.loc (lv' := [(0, _), (1, _), (2, _), (3, _)]) ⟨rfl, rfl, rfl, rfl, trivial⟩ ?_
          exfalso
          omega
      | succ d ih2 =>
        intro i a hq2
        have yes : hI σ 78 i = hI σ 69 12 + 1 → Q (some (vI (-1000 - (i : Int)))) σ := fun c => by
          have e : fnd (fun m => decide (hI σ 78 m = hI σ 69 12 + 1)) (d + 1) i = some (i : Int) := if_pos (decide_eq_true c)
          rw [e] at hq2
          exact hq2 _ rfl
        have no : ¬ hI σ 78 i = hI σ 69 12 + 1 → J mM_run 96 [(0, vR 69), (1, vI n), (2, vI k), (3, vI (i + 1))] [] σ Q := fun c => by
          have e : fnd (fun m => decide (hI σ 78 m = hI σ 69 12 + 1)) (d + 1) i = fnd (fun m => decide (hI σ 78 m = hI σ 69 12 + 1)) d (i + 1) := if_neg (fun q => c (of_decide_eq_true q))
          rw [e] at hq2
          exact ih2 (i + 1) (by omega) hq2
        refine j_iload_n (p2 := 97) dM_run_96 rfl rfl ?_
        refine j_aload_n (p2 := 98) dM_run_97 rfl rfl ?_
        refine j_getIk (p2 := 101) dM_run_98 rfl fa_M_158 ly_69 rfl (ki := 0) rfl ?_
        refine j_icmp_ge (p2 := 104) (tg := 131) dM_run_101 rfl (by decide) (by constructor <;> omega) (by constructor <;> omega) (fun h101 => ?_) (fun h101 => ?_)
        · refine J.loc (lv' := [(0, _), (1, _), (2, _)]) ⟨rfl, rfl, rfl, trivial⟩ ?_
          exfalso
          omega
        · refine j_aload_n (p2 := 105) dM_run_104 rfl rfl ?_
          refine j_getR (p2 := 108) dM_run_105 rfl fa_M_36 ly_69 rfl ?_
          refine j_iload_n (p2 := 109) dM_run_108 rfl rfl ?_
          refine j_iald (p2 := 110) dM_run_109 rfl ly_78 (by decide) (by omega) (by omega) ?_
          refine j_aload_n (p2 := 111) dM_run_110 rfl rfl ?_
          refine j_getIk (p2 := 114) dM_run_111 rfl fa_M_322 ly_69 rfl (ki := 12) rfl ?_
          refine j_iconst (p2 := 115) dM_run_114 rfl ?_
          refine j_iadd (p2 := 116) dM_run_115 rfl ?_
          refine j_icmp_ne (p2 := 119) (tg := 125) dM_run_116 rfl (by decide) (g7 i (by omega) (by omega)) (by constructor <;> omega) (fun h116 => ?_) (fun h116 => ?_)
          · refine j_iinc (p2 := 128) (lv' := [(0, _), (1, _), (2, _), (3, _)]) dM_run_125 rfl (Nat.le_of_ble_eq_true rfl) rfl ⟨rfl, rfl, rfl, rfl, trivial⟩ ?_
            refine j_goto (p2 := 96) dM_run_128 (by decide) ?_
            refine J.loc (lv' := [(0, _), (1, _), (2, _), (3, _)]) ⟨rfl, rfl, rfl, rfl, trivial⟩ ?_
            exact no h116
          · refine j_sipush (v := (-1000)) (p2 := 122) dM_run_119 rfl rfl ?_
            refine j_iload_n (p2 := 123) dM_run_122 rfl rfl ?_
            refine j_isub (p2 := 124) dM_run_123 rfl ?_
            refine j_ireturn dM_run_124 rfl (by exact yes h116)
    refine j_iload_n (p2 := 90) dM_run_89 rfl rfl ?_
    refine j_iload_n (p2 := 91) dM_run_90 rfl rfl ?_
    refine j_icmp_ge (p2 := 94) (tg := 165) dM_run_91 rfl (by decide) (by constructor <;> omega) (by constructor <;> omega) (fun h91 => ?_) (fun h91 => ?_)
    · refine j_iload_n (p2 := 166) dM_run_165 rfl rfl ?_
      refine j_ireturn dM_run_166 rfl (by exfalso; omega)
    · refine j_iconst (p2 := 95) dM_run_94 rfl ?_
      refine j_istore_n (p2 := 96) (lv' := [(0, _), (1, _), (2, _), (3, _)]) dM_run_95 rfl (Nat.le_of_ble_eq_true rfl) ⟨rfl, rfl, rfl, rfl, trivial⟩ ?_
      refine J.loc (lv' := [(0, _), (1, _), (2, _), (3, _)]) ⟨rfl, rfl, rfl, rfl, trivial⟩ ?_
      exact inner N 0 (by omega) (fun r hr => by rw [hr]; exact hq)
end REF30
