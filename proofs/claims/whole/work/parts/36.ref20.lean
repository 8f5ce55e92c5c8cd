/-! ===== check, as the reference does it ===== -/
abbrev AgN (f g : Int → Int) (N : Nat) : Prop := ∀ k : Int, 0 ≤ k → k < N → f k = g k
theorem rcI_ag {fr f g : Int → Int} {N : Nat} {k : Int} (h : AgN f g N) : ∀ i : Nat, AgN (rcI fr f k i) (rcI fr g k i) N
  | 0 => h
  | i + 1 => by
    show AgN (if _ then _ else _) (if _ then _ else _) N
    by_cases e : fr (6 * k + (i : Int)) = -1
    · rw [if_pos e, if_pos e]; exact rcI_ag h i
    · rw [if_neg e, if_neg e]
      intro j a b
      unfold fup
      by_cases c : j = fr (6 * k + (i : Int))
      · rw [if_pos c, if_pos c]
      · rw [if_neg c, if_neg c]; exact rcI_ag h i j a b
theorem rcK_ag {kd fr f g : Int → Int} {N : Nat} {m k : Int} (hk : 0 ≤ k ∧ k < N) (h : AgN f g N) : AgN (rcK kd fr m f k) (rcK kd fr m g k) N := by
  unfold rcK
  rw [h k hk.1 hk.2]
  by_cases e : (k = m ∨ ¬ g k = 0) ∧ ¬ rem (kd k)
  · rw [if_pos e, if_pos e]; exact rcI_ag h 6
  · rw [if_neg e, if_neg e]; exact h
theorem rcP_ag {kd fr f g : Int → Int} {N : Nat} {m : Int} (h : AgN f g N) : ∀ i : Nat, i ≤ N → AgN (rcP kd fr m f i) (rcP kd fr m g i) N
  | 0, _ => h
  | i + 1, hi => rcK_ag (by omega) (rcP_ag h i (by omega))
theorem rcT_ag {kd fr f g : Int → Int} {N : Nat} {m : Int} (h : AgN f g N) : ∀ i : Nat, AgN (rcT kd fr m f N i) (rcT kd fr m g N i) N
  | 0 => h
  | i + 1 => rcP_ag (rcT_ag h i) N (Nat.le_refl N)
theorem rcs_ag {kd fr f g : Int → Int} {N : Nat} {m k : Int} (h0 : 0 ≤ k) (h1 : k < N) : rcs kd fr m f N k = rcs kd fr m g N k := by
  unfold rcs
  exact rcT_ag (fun j a b => by rw [pw_lo a b, pw_lo a b]) (N + 1) k h0 h1
/-- whether m is in a circle -/
def circ (kd fr : Int → Int) (N : Nat) (m : Int) : Bool := if rem (kd m) then false else decide (¬ rcs kd fr m (fun _ => 0) N m = 0)
/-- the first of n, from i, that p takes -/
def fnd (p : Int → Bool) : Nat → Int → Option Int
  | 0, _ => none
  | n + 1, i => if p i = true then some i else fnd p n (i + 1)
def cres (c : Int) : Option Int → Int × Int → Int × Int
  | some m, _ => (1 + m, c)
  | none, d => d
/-- what check answers, and broken behind it -/
def chk (kd fr np : Int → Int) (N : Nat) : Int × Int := cres 1 (fnd (fun m => !hIn kd fr m) N 0) (cres 2 (fnd (fun m => decide (kd m = 7) && decide (np m < 2)) N 0) (cres 3 (fnd (circ kd fr N) N 0) (0, 0)))
section REF20
variable {σ : Hp} {Q : Option PV → Hp → Prop} {N : Nat}
def ckH (σ : Hp) (re : Int → Int) (b : Int) : Hp := wI (wI σ 104 re) 69 (fup (hI σ 69) 16 b)
theorem cM_check (hN : hI σ 69 0 = N ∧ N ≤ 20) (hc : CdN (hI σ 72) N) (hk : ∀ m : Int, 0 ≤ m → m < N → (0 ≤ hI σ 70 m ∧ hI σ 70 m < 14) ∧ inR (hI σ 75 m)) (hQ : ∀ re, Q (some (vI (chk (hI σ 70) (hI σ 72) (hI σ 75) N).1)) (ckH σ re (chk (hI σ 70) (hI σ 72) (hI σ 75) N).2)) : Sp mM_check [vR 69] σ Q := by
  obtain ⟨hN, hN2⟩ := hN
  have hk2 : ∀ m : Int, 0 ≤ m → m < N → inR (hI σ 70 m) := fun m a b => by have := (hk m a b).1; constructor <;> omega
  have third : ∀ (n i : Nat), i + n = N → (∀ re, Q (some (vI (cres 3 (fnd (circ (hI σ 70) (hI σ 72) N) n i) (0, 0)).1)) (ckH σ re (cres 3 (fnd (circ (hI σ 70) (hI σ 72) N) n i) (0, 0)).2)) → ∀ re, J mM_check 81 [(0, vR 69), (1, vI i)] [] (wI σ 104 re) Q := by
    intro n
    induction n with
    | zero =>
      intro i h1 hq re
      have eN : hI (wI σ 104 re) 69 0 = N := hN
      refine j_iload_n (p2 := 82) dM_check_81 rfl rfl ?_
      refine j_aload_n (p2 := 83) dM_check_82 rfl rfl ?_
      refine j_getIk (p2 := 86) dM_check_83 rfl fa_M_158 ly_69 rfl (ki := 0) rfl ?_
      refine j_icmp_ge (p2 := 89) (tg := 112) dM_check_86 rfl (by decide) (by constructor <;> omega) (by rw [eN]; constructor <;> omega) (fun h86 => ?_) (fun h86 => ?_)
      · refine j_aload_n (p2 := 113) dM_check_112 rfl rfl ?_
        refine j_iconst (p2 := 114) dM_check_113 rfl ?_
        refine j_putIk (p2 := 117) dM_check_114 rfl fw_M_220 ly_69 rfl (ki := 16) rfl ?_
        refine j_iconst (p2 := 118) dM_check_117 rfl ?_
        refine j_ireturn dM_check_118 rfl (by exact hq re)
      · refine J.loc (lv' := [(0, _), (1, _)]) ⟨rfl, rfl, trivial⟩ ?_
        exfalso
        rw [eN] at h86
        omega
    | succ n ih =>
      intro i h1 hq re
      have eN : hI (wI σ 104 re) 69 0 = N := hN
      have yes : ∀ re', circ (hI σ 70) (hI σ 72) N i = true → Q (some (vI (1 + (i : Int)))) (ckH σ re' 3) := fun re' hcc => by
        have := hq re'
        have e : fnd (circ (hI σ 70) (hI σ 72) N) (n + 1) i = some (i : Int) := if_pos hcc
        rw [e] at this; exact this
      have no : ∀ re', circ (hI σ 70) (hI σ 72) N i = false → J mM_check 81 [(0, vR 69), (1, vI (i + 1))] [] (wI σ 104 re') Q := fun re' hcc => by
        have e : fnd (circ (hI σ 70) (hI σ 72) N) (n + 1) i = fnd (circ (hI σ 70) (hI σ 72) N) n (i + 1) := if_neg (by rw [hcc]; decide)
        rw [e] at hq
        exact ih (i + 1) (by omega) hq re'
      have v01 : ∀ re', ¬ rem (hI σ 70 i) → rcs (hI σ 70) (hI σ 72) i re' N i = 0 ∨ rcs (hI σ 70) (hI σ 72) i re' N i = 1 := fun re' _ => rcT_01 rc0_01 (N + 1) i (by omega) (by omega)
      refine j_iload_n (p2 := 82) dM_check_81 rfl rfl ?_
      refine j_aload_n (p2 := 83) dM_check_82 rfl rfl ?_
      refine j_getIk (p2 := 86) dM_check_83 rfl fa_M_158 ly_69 rfl (ki := 0) rfl ?_
      refine j_icmp_ge (p2 := 89) (tg := 112) dM_check_86 rfl (by decide) (by constructor <;> omega) (by rw [eN]; constructor <;> omega) (fun h86 => ?_) (fun h86 => ?_)
      · refine j_aload_n (p2 := 113) dM_check_112 rfl rfl ?_
        refine j_iconst (p2 := 114) dM_check_113 rfl ?_
        refine j_putIk (p2 := 117) dM_check_114 rfl fw_M_220 ly_69 rfl (ki := 16) rfl ?_
        refine j_iconst (p2 := 118) dM_check_117 rfl ?_
        refine j_ireturn dM_check_118 rfl (by exfalso; rw [eN] at h86; omega)
      · refine J.loc (lv' := [(0, _), (1, _)]) ⟨rfl, rfl, trivial⟩ ?_
        rw [eN] at h86
        refine j_aload_n (p2 := 90) dM_check_89 rfl rfl ?_
        refine j_iload_n (p2 := 91) dM_check_90 rfl rfl ?_
        refine j_callV (m' := mM_isInCircle) (As := [_]) (p2 := 94) dM_check_91 rfl ml_M_223 ok_mM_isInCircle im_mM_isInCircle se_mM_isInCircle rfl rfl (Nat.le_of_ble_eq_true rfl) ly_69 rfl (Nat.le_of_ble_eq_true rfl) ⟨(Nat.le_of_ble_eq_true rfl), (Nat.le_of_ble_eq_true rfl)⟩ ?_
        refine cM_isInCircle (N := N) ⟨eN, hN2⟩ (by omega) hc hk2 (fun hr => ?_) (fun hr => ?_)
        · have hcc : circ (hI σ 70) (hI σ 72) N i = false := if_pos hr
          refine j_if_eq (p2 := 97) (tg := 106) dM_check_94 rfl (by decide) (by constructor <;> omega) (fun h94 => ?_) (fun h94 => ?_)
          · refine j_iinc (p2 := 109) (lv' := [(0, _), (1, _)]) dM_check_106 rfl (Nat.le_of_ble_eq_true rfl) rfl ⟨rfl, rfl, trivial⟩ ?_
            refine j_goto (p2 := 81) dM_check_109 (by decide) ?_
            refine J.loc (lv' := [(0, _), (1, _)]) ⟨rfl, rfl, trivial⟩ ?_
            exact no re hcc
          · refine j_aload_n (p2 := 98) dM_check_97 rfl rfl ?_
            refine j_iconst (p2 := 99) dM_check_98 rfl ?_
            refine j_putIk (p2 := 102) dM_check_99 rfl fw_M_220 ly_69 rfl (ki := 16) rfl ?_
            refine j_iconst (p2 := 103) dM_check_102 rfl ?_
            refine j_iload_n (p2 := 104) dM_check_103 rfl rfl ?_
            refine j_iadd (p2 := 105) dM_check_104 rfl ?_
            refine j_ireturn dM_check_105 rfl (by omega)
        · rw [wI_wI]
          have hr : ¬ rem (hI σ 70 i) := hr
          have hb := v01 re hr
          have ea : rcs (hI σ 70) (hI σ 72) i re N i = rcs (hI σ 70) (hI σ 72) i (fun _ => 0) N i := rcs_ag (by omega) (by omega)
          refine j_if_eq (p2 := 97) (tg := 106) dM_check_94 rfl (by decide) (by show inR (rcs (hI σ 70) (hI σ 72) i re N i); constructor <;> omega) (fun h94 => ?_) (fun h94 => ?_)
          · refine j_iinc (p2 := 109) (lv' := [(0, _), (1, _)]) dM_check_106 rfl (Nat.le_of_ble_eq_true rfl) rfl ⟨rfl, rfl, trivial⟩ ?_
            refine j_goto (p2 := 81) dM_check_109 (by decide) ?_
            refine J.loc (lv' := [(0, _), (1, _)]) ⟨rfl, rfl, trivial⟩ ?_
            refine no _ ?_
            unfold circ
            rw [if_neg hr]
            exact decide_eq_false (fun q => q (ea.symm.trans h94))
          · refine j_aload_n (p2 := 98) dM_check_97 rfl rfl ?_
            refine j_iconst (p2 := 99) dM_check_98 rfl ?_
            refine j_putIk (p2 := 102) dM_check_99 rfl fw_M_220 ly_69 rfl (ki := 16) rfl ?_
            refine j_iconst (p2 := 103) dM_check_102 rfl ?_
            refine j_iload_n (p2 := 104) dM_check_103 rfl rfl ?_
            refine j_iadd (p2 := 105) dM_check_104 rfl ?_
            refine j_ireturn dM_check_105 rfl (by refine yes _ ?_; unfold circ; rw [if_neg hr]; exact decide_eq_true (fun q => h94 (ea.trans q)))
  have second : ∀ (n i : Nat), i + n = N → (∀ re, Q (some (vI (cres 2 (fnd (fun m => decide (hI σ 70 m = 7) && decide (hI σ 75 m < 2)) n i) (cres 3 (fnd (circ (hI σ 70) (hI σ 72) N) N 0) (0, 0))).1)) (ckH σ re (cres 2 (fnd (fun m => decide (hI σ 70 m = 7) && decide (hI σ 75 m < 2)) n i) (cres 3 (fnd (circ (hI σ 70) (hI σ 72) N) N 0) (0, 0))).2)) → J mM_check 35 [(0, vR 69), (1, vI i)] [] σ Q := by
    intro n
    induction n with
    | zero =>
      intro i h1 hq
      refine j_iload_n (p2 := 36) dM_check_35 rfl rfl ?_
      refine j_aload_n (p2 := 37) dM_check_36 rfl rfl ?_
      refine j_getIk (p2 := 40) dM_check_37 rfl fa_M_158 ly_69 rfl (ki := 0) rfl ?_
      refine j_icmp_ge (p2 := 43) (tg := 79) dM_check_40 rfl (by decide) (by constructor <;> omega) (by constructor <;> omega) (fun h40 => ?_) (fun h40 => ?_)
      · refine j_iconst (p2 := 80) dM_check_79 rfl ?_
        refine j_istore_n (p2 := 81) (lv' := [(0, _), (1, _)]) dM_check_80 rfl (Nat.le_of_ble_eq_true rfl) ⟨rfl, rfl, trivial⟩ ?_
        refine J.loc (lv' := [(0, _), (1, _)]) ⟨rfl, rfl, trivial⟩ ?_
        have := third N 0 (by omega) hq (hI σ 104)
        rw [wI_id] at this
        exact this
      · refine J.loc (lv' := [(0, _), (1, _)]) ⟨rfl, rfl, trivial⟩ ?_
        exfalso
        omega
    | succ n ih =>
      intro i h1 hq
      have hki := hk i (by omega) (by omega)
      have yes : hI σ 70 i = 7 → hI σ 75 i < 2 → Q (some (vI (1 + (i : Int)))) (wI σ 69 (fup (hI σ 69) 16 2)) := fun a b => by
        have := hq (hI σ 104)
        have e : fnd (fun m => decide (hI σ 70 m = 7) && decide (hI σ 75 m < 2)) (n + 1) i = some (i : Int) := if_pos (by show (decide (hI σ 70 i = 7) && decide (hI σ 75 i < 2)) = true; rw [decide_eq_true a, decide_eq_true b]; rfl)
        rw [e] at this
        unfold ckH at this
        rw [wI_id] at this
        exact this
      have no : ¬ (hI σ 70 i = 7 ∧ hI σ 75 i < 2) → J mM_check 35 [(0, vR 69), (1, vI (i + 1))] [] σ Q := fun a => by
        have e : fnd (fun m => decide (hI σ 70 m = 7) && decide (hI σ 75 m < 2)) (n + 1) i = fnd (fun m => decide (hI σ 70 m = 7) && decide (hI σ 75 m < 2)) n (i + 1) := if_neg (fun q => by
          have q : (decide (hI σ 70 i = 7) && decide (hI σ 75 i < 2)) = true := q
          rw [Bool.and_eq_true] at q
          exact a ⟨of_decide_eq_true q.1, of_decide_eq_true q.2⟩)
        rw [e] at hq
        exact ih (i + 1) (by omega) hq
      refine j_iload_n (p2 := 36) dM_check_35 rfl rfl ?_
      refine j_aload_n (p2 := 37) dM_check_36 rfl rfl ?_
      refine j_getIk (p2 := 40) dM_check_37 rfl fa_M_158 ly_69 rfl (ki := 0) rfl ?_
      refine j_icmp_ge (p2 := 43) (tg := 79) dM_check_40 rfl (by decide) (by constructor <;> omega) (by constructor <;> omega) (fun h40 => ?_) (fun h40 => ?_)
      · refine j_iconst (p2 := 80) dM_check_79 rfl ?_
        refine j_istore_n (p2 := 81) (lv' := [(0, _), (1, _)]) dM_check_80 rfl (Nat.le_of_ble_eq_true rfl) ⟨rfl, rfl, trivial⟩ ?_
        refine J.loc (lv' := [(0, _), (1, _)]) ⟨rfl, rfl, trivial⟩ ?_
        exfalso
        omega
      · refine j_aload_n (p2 := 44) dM_check_43 rfl rfl ?_
        refine j_getR (p2 := 47) dM_check_44 rfl fa_M_7 ly_69 rfl ?_
        refine j_iload_n (p2 := 48) dM_check_47 rfl rfl ?_
        refine j_iald (p2 := 49) dM_check_48 rfl ly_70 (by decide) (by omega) (by omega) ?_
        refine j_bipush (v := 7) (p2 := 51) dM_check_49 rfl rfl ?_
        refine j_icmp_ne (p2 := 54) (tg := 73) dM_check_51 rfl (by decide) (by constructor <;> omega) (by constructor <;> omega) (fun h51 => ?_) (fun h51 => ?_)
        · refine j_iinc (p2 := 76) (lv' := [(0, _), (1, _)]) dM_check_73 rfl (Nat.le_of_ble_eq_true rfl) rfl ⟨rfl, rfl, trivial⟩ ?_
          refine j_goto (p2 := 35) dM_check_76 (by decide) ?_
          refine J.loc (lv' := [(0, _), (1, _)]) ⟨rfl, rfl, trivial⟩ ?_
          exact no (by omega)
        · refine j_aload_n (p2 := 55) dM_check_54 rfl rfl ?_
          refine j_getR (p2 := 58) dM_check_55 rfl fa_M_27 ly_69 rfl ?_
          refine j_iload_n (p2 := 59) dM_check_58 rfl rfl ?_
          refine j_iald (p2 := 60) dM_check_59 rfl ly_75 (by decide) (by omega) (by omega) ?_
          refine j_iconst (p2 := 61) dM_check_60 rfl ?_
          refine j_icmp_ge (p2 := 64) (tg := 73) dM_check_61 rfl (by decide) (by exact hki.2) (by constructor <;> omega) (fun h61 => ?_) (fun h61 => ?_)
          · refine j_iinc (p2 := 76) (lv' := [(0, _), (1, _)]) dM_check_73 rfl (Nat.le_of_ble_eq_true rfl) rfl ⟨rfl, rfl, trivial⟩ ?_
            refine j_goto (p2 := 35) dM_check_76 (by decide) ?_
            refine J.loc (lv' := [(0, _), (1, _)]) ⟨rfl, rfl, trivial⟩ ?_
            exact no (by omega)
          · refine j_aload_n (p2 := 65) dM_check_64 rfl rfl ?_
            refine j_iconst (p2 := 66) dM_check_65 rfl ?_
            refine j_putIk (p2 := 69) dM_check_66 rfl fw_M_220 ly_69 rfl (ki := 16) rfl ?_
            refine j_iconst (p2 := 70) dM_check_69 rfl ?_
            refine j_iload_n (p2 := 71) dM_check_70 rfl rfl ?_
            refine j_iadd (p2 := 72) dM_check_71 rfl ?_
            refine j_ireturn dM_check_72 rfl (by exact yes (by omega) (by omega))
  have first : ∀ (n i : Nat), i + n = N → (∀ re, Q (some (vI (cres 1 (fnd (fun m => !hIn (hI σ 70) (hI σ 72) m) n i) (cres 2 (fnd (fun m => decide (hI σ 70 m = 7) && decide (hI σ 75 m < 2)) N 0) (cres 3 (fnd (circ (hI σ 70) (hI σ 72) N) N 0) (0, 0)))).1)) (ckH σ re (cres 1 (fnd (fun m => !hIn (hI σ 70) (hI σ 72) m) n i) (cres 2 (fnd (fun m => decide (hI σ 70 m = 7) && decide (hI σ 75 m < 2)) N 0) (cres 3 (fnd (circ (hI σ 70) (hI σ 72) N) N 0) (0, 0)))).2)) → J mM_check 2 [(0, vR 69), (1, vI i)] [] σ Q := by
    intro n
    induction n with
    | zero =>
      intro i h1 hq
      refine j_iload_n (p2 := 3) dM_check_2 rfl rfl ?_
      refine j_aload_n (p2 := 4) dM_check_3 rfl rfl ?_
      refine j_getIk (p2 := 7) dM_check_4 rfl fa_M_158 ly_69 rfl (ki := 0) rfl ?_
      refine j_icmp_ge (p2 := 10) (tg := 33) dM_check_7 rfl (by decide) (by constructor <;> omega) (by constructor <;> omega) (fun h7 => ?_) (fun h7 => ?_)
      · refine j_iconst (p2 := 34) dM_check_33 rfl ?_
        refine j_istore_n (p2 := 35) (lv' := [(0, _), (1, _)]) dM_check_34 rfl (Nat.le_of_ble_eq_true rfl) ⟨rfl, rfl, trivial⟩ ?_
        refine J.loc (lv' := [(0, _), (1, _)]) ⟨rfl, rfl, trivial⟩ ?_
        exact second N 0 (by omega) hq
      · refine J.loc (lv' := [(0, _), (1, _)]) ⟨rfl, rfl, trivial⟩ ?_
        exfalso
        omega
    | succ n ih =>
      intro i h1 hq
      have hki := hk i (by omega) (by omega)
      have hci := hc i (by omega) (by omega)
      have yes : hIn (hI σ 70) (hI σ 72) i = false → Q (some (vI (1 + (i : Int)))) (wI σ 69 (fup (hI σ 69) 16 1)) := fun a => by
        have := hq (hI σ 104)
        have e : fnd (fun m => !hIn (hI σ 70) (hI σ 72) m) (n + 1) i = some (i : Int) := if_pos (by show (!hIn (hI σ 70) (hI σ 72) i) = true; rw [a]; rfl)
        rw [e] at this
        unfold ckH at this
        rw [wI_id] at this
        exact this
      have no : hIn (hI σ 70) (hI σ 72) i = true → J mM_check 2 [(0, vR 69), (1, vI (i + 1))] [] σ Q := fun a => by
        have e : fnd (fun m => !hIn (hI σ 70) (hI σ 72) m) (n + 1) i = fnd (fun m => !hIn (hI σ 70) (hI σ 72) m) n (i + 1) := if_neg (by show ¬ (!hIn (hI σ 70) (hI σ 72) i) = true; rw [a]; decide)
        rw [e] at hq
        exact ih (i + 1) (by omega) hq
      refine j_iload_n (p2 := 3) dM_check_2 rfl rfl ?_
      refine j_aload_n (p2 := 4) dM_check_3 rfl rfl ?_
      refine j_getIk (p2 := 7) dM_check_4 rfl fa_M_158 ly_69 rfl (ki := 0) rfl ?_
      refine j_icmp_ge (p2 := 10) (tg := 33) dM_check_7 rfl (by decide) (by constructor <;> omega) (by constructor <;> omega) (fun h7 => ?_) (fun h7 => ?_)
      · refine j_iconst (p2 := 34) dM_check_33 rfl ?_
        refine j_istore_n (p2 := 35) (lv' := [(0, _), (1, _)]) dM_check_34 rfl (Nat.le_of_ble_eq_true rfl) ⟨rfl, rfl, trivial⟩ ?_
        refine J.loc (lv' := [(0, _), (1, _)]) ⟨rfl, rfl, trivial⟩ ?_
        exfalso
        omega
      · refine j_aload_n (p2 := 11) dM_check_10 rfl rfl ?_
        refine j_iload_n (p2 := 12) dM_check_11 rfl rfl ?_
        refine j_callV (m' := mM_hasInputs) (As := [_]) (p2 := 15) dM_check_12 rfl ml_M_217 ok_mM_hasInputs im_mM_hasInputs se_mM_hasInputs rfl rfl (Nat.le_of_ble_eq_true rfl) ly_69 rfl (Nat.le_of_ble_eq_true rfl) ⟨(Nat.le_of_ble_eq_true rfl), (Nat.le_of_ble_eq_true rfl)⟩ ?_
        refine cM_hasInputs (by omega) hki.1 (fun j a b => by have := hci j a b; constructor <;> omega) ?_
        refine j_ifb_ne (p2 := 18) (tg := 27) dM_check_15 rfl (by decide) (fun h15 => ?_) (fun h15 => ?_)
        · refine j_iinc (p2 := 30) (lv' := [(0, _), (1, _)]) dM_check_27 rfl (Nat.le_of_ble_eq_true rfl) rfl ⟨rfl, rfl, trivial⟩ ?_
          refine j_goto (p2 := 2) dM_check_30 (by decide) ?_
          refine J.loc (lv' := [(0, _), (1, _)]) ⟨rfl, rfl, trivial⟩ ?_
          exact no h15
        · refine j_aload_n (p2 := 19) dM_check_18 rfl rfl ?_
          refine j_iconst (p2 := 20) dM_check_19 rfl ?_
          refine j_putIk (p2 := 23) dM_check_20 rfl fw_M_220 ly_69 rfl (ki := 16) rfl ?_
          refine j_iconst (p2 := 24) dM_check_23 rfl ?_
          refine j_iload_n (p2 := 25) dM_check_24 rfl rfl ?_
          refine j_iadd (p2 := 26) dM_check_25 rfl ?_
          refine j_ireturn dM_check_26 rfl (by exact yes h15)
  refine j_iconst (p2 := 1) dM_check_0 rfl ?_
  refine j_istore_n (p2 := 2) (lv' := [(0, _), (1, _)]) dM_check_1 rfl (Nat.le_of_ble_eq_true rfl) ⟨rfl, rfl, trivial⟩ ?_
  refine J.loc (lv' := [(0, _), (1, _)]) ⟨rfl, rfl, trivial⟩ ?_
  exact first N 0 (by omega) hQ
theorem cM_wrong (hN : hI σ 69 0 = N ∧ N ≤ 20) (hc : CdN (hI σ 72) N) (hk : ∀ m : Int, 0 ≤ m → m < N → (0 ≤ hI σ 70 m ∧ hI σ 70 m < 14) ∧ inR (hI σ 75 m)) (hQ : ∀ re, Q (some (vI (chk (hI σ 70) (hI σ 72) (hI σ 75) N).1)) (wI σ 104 re)) : Sp mM_wrong [vR 69] σ Q := by
  refine j_aload_n (p2 := 1) dM_wrong_0 rfl rfl ?_
  refine j_getIk (p2 := 4) dM_wrong_1 rfl fa_M_220 ly_69 rfl (ki := 16) rfl ?_
  refine j_istore_n (p2 := 5) (lv' := [(0, _), (1, _)]) dM_wrong_4 rfl (Nat.le_of_ble_eq_true rfl) ⟨rfl, rfl, trivial⟩ ?_
  refine j_aload_n (p2 := 6) dM_wrong_5 rfl rfl ?_
  refine j_callV (m' := mM_check) (As := []) (p2 := 9) dM_wrong_6 rfl ml_M_226 ok_mM_check im_mM_check se_mM_check rfl rfl (Nat.le_of_ble_eq_true rfl) ly_69 rfl (Nat.le_of_ble_eq_true rfl) ⟨(Nat.le_of_ble_eq_true rfl), (Nat.le_of_ble_eq_true rfl)⟩ ?_
  refine cM_check hN hc hk (fun re => ?_)
  refine j_istore_n (p2 := 10) (lv' := [(0, _), (1, _), (2, _)]) dM_wrong_9 rfl (Nat.le_of_ble_eq_true rfl) ⟨rfl, rfl, rfl, trivial⟩ ?_
  refine j_aload_n (p2 := 11) dM_wrong_10 rfl rfl ?_
  refine j_iload_n (p2 := 12) dM_wrong_11 rfl rfl ?_
  refine j_putIk (p2 := 15) dM_wrong_12 rfl fw_M_220 ly_69 rfl (ki := 16) rfl ?_
  refine j_iload_n (p2 := 16) dM_wrong_15 rfl rfl ?_
  refine j_ireturn dM_wrong_16 rfl ?_
  have e : wI (ckH σ re (chk (hI σ 70) (hI σ 72) (hI σ 75) N).2) 69 (fup (hI (ckH σ re (chk (hI σ 70) (hI σ 72) (hI σ 75) N).2) 69) 16 (hI σ 69 16)) = wI σ 104 re := by
    have e1 : hI (ckH σ re (chk (hI σ 70) (hI σ 72) (hI σ 75) N).2) 69 = fup (hI σ 69) 16 (chk (hI σ 70) (hI σ 72) (hI σ 75) N).2 := rfl
    rw [e1]
    unfold ckH
    rw [wI_wI]
    have e2 : fup (fup (hI σ 69) 16 (chk (hI σ 70) (hI σ 72) (hI σ 75) N).2) 16 (hI σ 69 16) = hI (wI σ 104 re) 69 := by
      funext k
      unfold fup
      by_cases h : k = 16
      · rw [if_pos h, h]; rfl
      · rw [if_neg h, if_neg h]; rfl
    rw [e2, wI_id]
  rw [e]
  exact hQ re
end REF20
