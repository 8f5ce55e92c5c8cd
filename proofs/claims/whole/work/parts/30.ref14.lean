/-! ===== lengths of steps; strips ===== -/
def lenD : Nat → UInt64
  | 0 => FP.dconst1
  | j + 1 => FP.ddiv (lenD j) 4611686018427387904
theorem lenD_mg : ∀ j : Nat, mg (lenD j) 1024
  | 0 => by show mg FP.dconst1 1024; unfold mg; decide
  | j + 1 => (mg_div2 (lenD_mg j) (by decide)).mono (by decide)
theorem lenD_mg2 : ∀ j : Nat, mg (lenD (j + 1)) 1023
  | 0 => by show mg (FP.ddiv FP.dconst1 4611686018427387904) 1023; unfold mg; decide +kernel
  | j + 1 => (mg_div2 (lenD_mg2 j) (by decide)).mono (by decide)
section GT
variable {α : Type}
/-- each of n strips takes a sample: strip s, whose samples are ns s, the reading of module so s -/
def tkS (ns so : Int → Int) (r sm : Int → α) : Int → α := fun j => if j = 120 * (j / 120) + ns (j / 120) then r (so (j / 120)) else sm j
theorem tkS_s {ns so : Int → Int} {r sm : Int → α} {i : Nat} (h : 0 ≤ ns i ∧ ns i < 120) : fup (pw sm (tkS ns so r sm) (120 * i)) (120 * i + ns i) (r (so i)) = pw sm (tkS ns so r sm) (120 * (i + 1)) := by
  funext j
  unfold fup
  by_cases hj : j = 120 * (i : Int) + ns i
  · rw [if_pos hj, pw_lo (by omega) (by omega)]
    unfold tkS
    have e : j / 120 = (i : Int) := by omega
    rw [e, if_pos hj]
  · rw [if_neg hj]
    by_cases h1 : 0 ≤ j ∧ j < (120 * i : Nat)
    · rw [pw_lo h1.1 h1.2, pw_lo h1.1 (by omega)]
    · by_cases h2 : (120 * i : Nat) ≤ j ∧ j < (120 * (i + 1) : Nat)
      · rw [pw_lo (n := 120 * (i + 1)) (by omega) h2.2, pw_hi (by omega)]
        unfold tkS
        have e : j / 120 = (i : Int) := by omega
        rw [e, if_neg hj]
      · unfold pw
        rw [if_neg (by omega), if_neg (by omega)]
end GT
section REF14
variable {σ : Hp} {Q : Option PV → Hp → Prop} {N : Nat}
theorem cM_lengthOf {k : Nat} (hk : k ≤ 30) (hQ : Q (some (vD (lenD k))) σ) : Sp mM_lengthOf [vR 69, vI k] σ Q := by
  have loop : ∀ (n i : Nat), i ≤ k → k + 1 ≤ i + n → J mM_lengthOf 5 [(1, vI k), (2, vD (lenD i)), (4, vI i)] [] σ Q := by
    intro n
    induction n with
    | zero => intro i h1 h2; exact absurd h2 (by omega)
    | succ n ih =>
      intro i h1 h2
      have o : vf_n64 (FP.ddiv (lenD i) 4611686018427387904) := (lenD_mg (i + 1)).nn (by decide)
      refine j_iload (p2 := 7) dM_lengthOf_5 rfl rfl ?_
      refine j_iload_n (p2 := 8) dM_lengthOf_7 rfl rfl ?_
      refine j_icmp_ge (p2 := 11) (tg := 23) dM_lengthOf_8 rfl (by decide) (by constructor <;> omega) (by constructor <;> omega) (fun h8 => ?_) (fun h8 => ?_)
      · refine j_dload_n (p2 := 24) dM_lengthOf_23 rfl rfl ?_
        refine j_dreturn dM_lengthOf_24 rfl (by have e : i = k := (by omega); subst e; exact hQ)
      · refine j_dload_n (p2 := 12) dM_lengthOf_11 rfl rfl ?_
        refine j_ldc2d (p2 := 15) dM_lengthOf_12 rfl cw_M_314 ?_
        refine j_ddiv (p2 := 16) dM_lengthOf_15 rfl (by assumption) ?_
        refine j_dstore_n (p2 := 17) (lv' := [(1, _), (2, _), (4, _)]) dM_lengthOf_16 rfl (Nat.le_of_ble_eq_true rfl) ⟨rfl, rfl, rfl, trivial⟩ ?_
        refine j_iinc (p2 := 20) (lv' := [(1, _), (2, _), (4, _)]) dM_lengthOf_17 rfl (Nat.le_of_ble_eq_true rfl) rfl ⟨rfl, rfl, rfl, trivial⟩ ?_
        refine j_goto (p2 := 5) dM_lengthOf_20 (by decide) ?_
        refine J.loc (lv' := [(1, _), (2, _), (4, _)]) ⟨rfl, rfl, rfl, trivial⟩ ?_
        exact ih (i + 1) (by omega) (by omega)
  refine j_dconst1 (p2 := 1) dM_lengthOf_0 rfl ?_
  refine j_dstore_n (p2 := 2) (lv' := [(1, _), (2, _)]) dM_lengthOf_1 rfl (Nat.le_of_ble_eq_true rfl) ⟨rfl, rfl, trivial⟩ ?_
  refine j_iconst (p2 := 3) dM_lengthOf_2 rfl ?_
  refine j_istore (p2 := 5) (lv' := [(1, _), (2, _), (4, _)]) dM_lengthOf_3 rfl (Nat.le_of_ble_eq_true rfl) ⟨rfl, rfl, rfl, trivial⟩ ?_
  refine J.loc (lv' := [(1, _), (2, _), (4, _)]) ⟨rfl, rfl, rfl, trivial⟩ ?_
  exact loop (k + 1) 0 (by omega) (by omega)
def tsH (σ : Hp) (N : Nat) : Hp := wI (wD σ 102 (pw (hD σ 102) (tkS (hI σ 101) (hI σ 100) (hD σ 82) (hD σ 102)) (120 * N))) 101 (pw (hI σ 101) (fun s => hI σ 101 s + 1) N)
theorem tsH_0 : tsH σ 0 = σ := by
  unfold tsH
  rw [show 120 * 0 = 0 from rfl, pw_0, pw_0, wD_id, wI_id]
theorem ts_step {a b : Int → UInt64} {c d : Int → Int} : wI (wD (wI (wD σ 102 a) 101 c) 102 b) 101 d = wI (wD σ 102 b) 101 d := by
  show (up1 (up1 σ.1 101 c) 101 d, σ.2.1, σ.2.2.1, up1 (up1 σ.2.2.2 102 a) 102 b) = (up1 σ.1 101 d, σ.2.1, σ.2.2.1, up1 σ.2.2.2 102 b)
  simp only [up1_up1]
theorem cM_toStrips (hN : hI σ 69 37 = N ∧ N ≤ 6) (hs : ∀ s : Int, 0 ≤ s → s < N → (0 ≤ hI σ 101 s ∧ hI σ 101 s < 120) ∧ (0 ≤ hI σ 100 s ∧ hI σ 100 s < 20)) (hQ : Q none (tsH σ N)) : Sp mM_toStrips [vR 69] σ Q := by
  obtain ⟨hN, hN2⟩ := hN
  have loop : ∀ (n i : Nat), i ≤ N → N + 1 ≤ i + n → J mM_toStrips 2 [(0, vR 69), (1, vI i)] [] (tsH σ i) Q := by
    intro n
    induction n with
    | zero => intro i h1 h2; exact absurd h2 (by omega)
    | succ n ih =>
      intro i h1 h2
      have eN : hI (tsH σ i) 69 37 = N := hN
      have hsi : i < N → (0 ≤ hI σ 101 i ∧ hI σ 101 i < 120) ∧ (0 ≤ hI σ 100 i ∧ hI σ 100 i < 20) := fun h => hs i (by omega) (by omega)
      have ih2 : i < N → J mM_toStrips 2 [(0, vR 69), (1, vI (i + 1))] [] (tsH σ (i + 1)) Q := fun h => ih (i + 1) (by omega) (by omega)
      have eS : hI (tsH σ i) 101 i = hI σ 101 i := pw_at (hI σ 101) (fun s => hI σ 101 s + 1) i
      have eO : hI (tsH σ i) 100 i = hI σ 100 i := rfl
      have yes : i < N → tsH σ (i + 1) = wI (wD (tsH σ i) 102 (fup (hD (tsH σ i) 102) (120 * i + hI (tsH σ i) 101 i) (hD σ 82 (hI σ 100 i)))) 101 (fup (hI (tsH σ i) 101) i (hI (tsH σ i) 101 i + 1)) := fun h => by
        rw [eS]
        unfold tsH
        rw [ts_step]
        have e1 := tkS_s (ns := hI σ 101) (so := hI σ 100) (r := hD σ 82) (sm := hD σ 102) (hsi h).1
        have e2 := pw_s (hI σ 101) (fun s => hI σ 101 s + 1) i
        rw [← e1, ← e2]
        rfl
      refine j_iload_n (p2 := 3) dM_toStrips_2 rfl rfl ?_
      refine j_aload_n (p2 := 4) dM_toStrips_3 rfl rfl ?_
      refine j_getIk (p2 := 7) dM_toStrips_4 rfl fa_M_332 ly_69 rfl (ki := 37) rfl ?_
      refine j_icmp_ge (p2 := 10) (tg := 53) dM_toStrips_7 rfl (by decide) (by constructor <;> omega) (by rw [eN]; constructor <;> omega) (fun h7 => ?_) (fun h7 => ?_)
      · refine j_return dM_toStrips_53 rfl (by rw [eN] at h7; have e : i = N := (by omega); subst e; exact hQ)
      · refine J.loc (lv' := [(0, _), (1, _)]) ⟨rfl, rfl, trivial⟩ ?_
        rw [eN] at h7
        have hb := hsi (by omega)
        refine j_aload_n (p2 := 11) dM_toStrips_10 rfl rfl ?_
        refine j_getR (p2 := 14) dM_toStrips_11 rfl fa_M_113 ly_69 rfl ?_
        refine j_bipush (v := 120) (p2 := 16) dM_toStrips_14 rfl rfl ?_
        refine j_iload_n (p2 := 17) dM_toStrips_16 rfl rfl ?_
        refine j_imul (p2 := 18) dM_toStrips_17 rfl ?_
        refine j_aload_n (p2 := 19) dM_toStrips_18 rfl rfl ?_
        refine j_getR (p2 := 22) dM_toStrips_19 rfl fa_M_110 ly_69 rfl ?_
        refine j_iload_n (p2 := 23) dM_toStrips_22 rfl rfl ?_
        refine j_iald (p2 := 24) dM_toStrips_23 rfl ly_101 (by decide) (by omega) (by omega) ?_
        refine j_iadd (p2 := 25) dM_toStrips_24 rfl ?_
        refine j_aload_n (p2 := 26) dM_toStrips_25 rfl rfl ?_
        refine j_getR (p2 := 29) dM_toStrips_26 rfl fa_M_53 ly_69 rfl ?_
        refine j_aload_n (p2 := 30) dM_toStrips_29 rfl rfl ?_
        refine j_getR (p2 := 33) dM_toStrips_30 rfl fa_M_107 ly_69 rfl ?_
        refine j_iload_n (p2 := 34) dM_toStrips_33 rfl rfl ?_
        refine j_iald (p2 := 35) dM_toStrips_34 rfl ly_100 (by decide) (by omega) (by omega) ?_
        refine j_dald (p2 := 36) dM_toStrips_35 rfl ly_82 (by decide) (by rw [eO]; omega) (by rw [eO]; omega) ?_
        refine j_dastk (p2 := 37) dM_toStrips_36 rfl ly_102 (by decide) (by rw [eS]; omega) (by rw [eS]; omega) ?_
        refine j_aload_n (p2 := 38) dM_toStrips_37 rfl rfl ?_
        refine j_getR (p2 := 41) dM_toStrips_38 rfl fa_M_110 ly_69 rfl ?_
        refine j_iload_n (p2 := 42) dM_toStrips_41 rfl rfl ?_
        refine j_dup2 (p2 := 43) dM_toStrips_42 rfl rfl rfl ?_
        refine j_iald (p2 := 44) dM_toStrips_43 rfl ly_101 (by decide) (by omega) (by omega) ?_
        refine j_iconst (p2 := 45) dM_toStrips_44 rfl ?_
        refine j_iadd (p2 := 46) dM_toStrips_45 rfl ?_
        refine j_iastk (p2 := 47) dM_toStrips_46 rfl ly_101 (by decide) (by omega) (by omega) ?_
        refine j_iinc (p2 := 50) (lv' := [(0, _), (1, _)]) dM_toStrips_47 rfl (Nat.le_of_ble_eq_true rfl) rfl ⟨rfl, rfl, trivial⟩ ?_
        refine j_goto (p2 := 2) dM_toStrips_50 (by decide) ?_
        refine J.loc (lv' := [(0, _), (1, _)]) ⟨rfl, rfl, trivial⟩ ?_
        exact (ih2 (by omega)).hp (yes (by omega))
  refine j_iconst (p2 := 1) dM_toStrips_0 rfl ?_
  refine j_istore_n (p2 := 2) (lv' := [(0, _), (1, _)]) dM_toStrips_1 rfl (Nat.le_of_ble_eq_true rfl) ⟨rfl, rfl, trivial⟩ ?_
  refine J.loc (lv' := [(0, _), (1, _)]) ⟨rfl, rfl, trivial⟩ ?_
  exact (loop (N + 1) 0 (by omega) (by omega)).hp tsH_0
end REF14
