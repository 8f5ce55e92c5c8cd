/-! ===== the panel: mode, run ===== -/
section PAN9
variable {σ : Hp} {Q : Option PV → Hp → Prop} {N : Nat}
/-- what refresh leaves -/
abbrev Rfr (σ τ : Hp) (fr : Int → Int) (N : Nat) : Prop := Fq [3, 15, 16, 17, 18] σ τ ∧ (∀ k : Int, ¬ k = 3 → hI τ 3 k = hI σ 3 k) ∧ hI τ 3 3 = 0 ∧ hD τ 3 = hD σ 3 ∧ LevR τ fr N
theorem cX_mode {fr : Int → Int} {m : Int} (hm : inR m) (hc : CtI σ fr N) (hp : ∀ m : Int, 0 ≤ m → m < N → inR (hI σ 11 m)) (h01 : hI σ 3 3 = 0 ∨ hI σ 3 3 = 1) (hf : hI σ 3 3 = 0 → LevR σ fr N) (q1 : ¬ (m = 0 ∨ m = 1) → Q (some (vI (-102))) σ) (q2 : m = 1 → ¬ fbr (hI σ 4) fr (hI σ 11) N = 0 → ∀ τ, Rfr σ τ fr N → Q (some (vI (-103))) τ) (q3 : m = 0 → Q (some (vI (hI σ 0 9))) (wI σ 0 (fup (hI σ 0) 9 0)))
    (q4 : m = 1 → fbr (hI σ 4) fr (hI σ 11) N = 0 → ∀ τ, Rfr σ τ fr N → ∀ Q' : Option PV → Hp → Prop, (∀ ν, Q (some (vI (hI σ 0 9))) ν → Q' none ν) → Sp mX_toStart [vR 0] (wI τ 0 (fup (hI τ 0) 9 1)) Q') : Sp mX_mode [vR 0, vI m] σ Q := by
  have hb := fbr_b (hI σ 4) fr (hI σ 11) N
  by_cases h0 : m = 0
  · subst h0
    refine j_iload_n (p2 := 1) dX_mode_0 rfl rfl ?_
    refine j_if_eq (p2 := 4) (tg := 12) dX_mode_1 rfl (by decide) (by constructor <;> omega) (fun h1 => ?_) (fun h1 => ?_)
    · refine j_iload_n (p2 := 13) dX_mode_12 rfl rfl ?_
      refine j_iconst (p2 := 14) dX_mode_13 rfl ?_
      refine j_icmp_ne (p2 := 17) (tg := 27) dX_mode_14 rfl (by decide) (by constructor <;> omega) (by constructor <;> omega) (fun h14 => ?_) (fun h14 => ?_)
      · refine j_aload_n (p2 := 28) dX_mode_27 rfl rfl ?_
        refine j_getIk (p2 := 31) dX_mode_28 rfl fa_X_68 ly_0 rfl (ki := 9) rfl ?_
        refine j_istore_n (p2 := 32) (lv' := [(0, _), (1, _), (2, _)]) dX_mode_31 rfl (Nat.le_of_ble_eq_true rfl) ⟨rfl, rfl, rfl, trivial⟩ ?_
        refine j_aload_n (p2 := 33) dX_mode_32 rfl rfl ?_
        refine j_iload_n (p2 := 34) dX_mode_33 rfl rfl ?_
        refine j_putIk (p2 := 37) dX_mode_34 rfl fw_X_68 ly_0 rfl (ki := 9) rfl ?_
        refine j_iload_n (p2 := 38) dX_mode_37 rfl rfl ?_
        refine j_iconst (p2 := 39) dX_mode_38 rfl ?_
        refine j_icmp_ne (p2 := 42) (tg := 46) dX_mode_39 rfl (by decide) (by constructor <;> omega) (by constructor <;> omega) (fun h39 => ?_) (fun h39 => ?_)
        · refine j_iload_n (p2 := 47) dX_mode_46 rfl rfl ?_
          refine j_ireturn dX_mode_47 rfl (by exact q3 rfl)
        · refine J.loc (lv' := [(0, _), (2, _)]) ⟨rfl, rfl, trivial⟩ ?_
          exfalso
          omega
      · refine J.loc (lv' := [(0, _), (1, _)]) ⟨rfl, rfl, trivial⟩ ?_
        exfalso
        omega
    · refine J.loc (lv' := [(0, _), (1, _)]) ⟨rfl, rfl, trivial⟩ ?_
      exact absurd rfl h1
  · by_cases g : m = 1
    · subst g
      have at27 : fbr (hI σ 4) fr (hI σ 11) N = 0 → ∀ τ, Rfr σ τ fr N → J mX_mode 27 [(0, vR 0), (1, vI 1)] [] τ Q := fun z τ h => by
        have e0 : hI τ 0 9 = hI σ 0 9 := by rw [h.1.I (by decide)]
        refine j_aload_n (p2 := 28) dX_mode_27 rfl rfl ?_
        refine j_getIk (p2 := 31) dX_mode_28 rfl fa_X_68 ly_0 rfl (ki := 9) rfl ?_
        refine j_istore_n (p2 := 32) (lv' := [(0, _), (1, _), (2, _)]) dX_mode_31 rfl (Nat.le_of_ble_eq_true rfl) ⟨rfl, rfl, rfl, trivial⟩ ?_
        refine j_aload_n (p2 := 33) dX_mode_32 rfl rfl ?_
        refine j_iload_n (p2 := 34) dX_mode_33 rfl rfl ?_
        refine j_putIk (p2 := 37) dX_mode_34 rfl fw_X_68 ly_0 rfl (ki := 9) rfl ?_
        refine j_iload_n (p2 := 38) dX_mode_37 rfl rfl ?_
        refine j_iconst (p2 := 39) dX_mode_38 rfl ?_
        refine j_icmp_ne (p2 := 42) (tg := 46) dX_mode_39 rfl (by decide) (by constructor <;> omega) (by constructor <;> omega) (fun h39 => ?_) (fun h39 => ?_)
        · refine j_iload_n (p2 := 47) dX_mode_46 rfl rfl ?_
          refine j_ireturn dX_mode_47 rfl (by exfalso; omega)
        · refine J.loc (lv' := [(0, _), (2, _)]) ⟨rfl, rfl, trivial⟩ ?_
          refine j_aload_n (p2 := 43) dX_mode_42 rfl rfl ?_
          refine j_callV (m' := mX_toStart) (As := []) (p2 := 46) dX_mode_43 rfl ml_X_161 ok_mX_toStart im_mX_toStart se_mX_toStart rfl rfl (Nat.le_of_ble_eq_true rfl) ly_0 rfl (Nat.le_of_ble_eq_true rfl) ⟨(Nat.le_of_ble_eq_true rfl), (Nat.le_of_ble_eq_true rfl)⟩ ?_
          refine q4 rfl z τ h _ (fun ν hν => ?_)
          refine j_iload_n (p2 := 47) dX_mode_46 rfl rfl ?_
          refine j_ireturn dX_mode_47 rfl (by rw [e0]; exact hν)
      refine j_iload_n (p2 := 1) dX_mode_0 rfl rfl ?_
      refine j_if_eq (p2 := 4) (tg := 12) dX_mode_1 rfl (by decide) (by constructor <;> omega) (fun h1 => ?_) (fun h1 => ?_)
      · refine j_iload_n (p2 := 13) dX_mode_12 rfl rfl ?_
        refine j_iconst (p2 := 14) dX_mode_13 rfl ?_
        refine j_icmp_ne (p2 := 17) (tg := 27) dX_mode_14 rfl (by decide) (by constructor <;> omega) (by constructor <;> omega) (fun h14 => ?_) (fun h14 => ?_)
        · refine J.loc (lv' := [(0, _), (1, _)]) ⟨rfl, rfl, trivial⟩ ?_
          first
            | exact at27 h21 τ ⟨F, f1, f2, f3, hL⟩
            | (exfalso; omega)
        · refine j_aload_n (p2 := 18) dX_mode_17 rfl rfl ?_
          refine j_callV (m' := mX_firstBrokenRule) (As := []) (p2 := 21) dX_mode_18 rfl ml_X_134 ok_mX_firstBrokenRule im_mX_firstBrokenRule se_mX_firstBrokenRule rfl rfl (Nat.le_of_ble_eq_true rfl) ly_0 rfl (Nat.le_of_ble_eq_true rfl) ⟨(Nat.le_of_ble_eq_true rfl), (Nat.le_of_ble_eq_true rfl)⟩ ?_
          refine cX_firstBrokenRule hc hp h01 hf (fun τ F f1 f2 f3 hL => ?_)
          refine j_if_eq (p2 := 24) (tg := 27) dX_mode_21 rfl (by decide) (by constructor <;> omega) (fun h21 => ?_) (fun h21 => ?_)
          · refine J.loc (lv' := [(0, _), (1, _)]) ⟨rfl, rfl, trivial⟩ ?_
            first
              | exact at27 h21 τ ⟨F, f1, f2, f3, hL⟩
              | (exfalso; omega)
          · refine j_bipush (v := (-103)) (p2 := 26) dX_mode_24 rfl rfl ?_
            refine j_ireturn dX_mode_26 rfl (by first | exact q2 rfl h21 τ ⟨F, f1, f2, f3, hL⟩ | (exfalso; omega))
      · refine j_iload_n (p2 := 5) dX_mode_4 rfl rfl ?_
        refine j_iconst (p2 := 6) dX_mode_5 rfl ?_
        refine j_icmp_eq (p2 := 9) (tg := 12) dX_mode_6 rfl (by decide) (by constructor <;> omega) (by constructor <;> omega) (fun h6 => ?_) (fun h6 => ?_)
        · refine j_iload_n (p2 := 13) dX_mode_12 rfl rfl ?_
          refine j_iconst (p2 := 14) dX_mode_13 rfl ?_
          refine j_icmp_ne (p2 := 17) (tg := 27) dX_mode_14 rfl (by decide) (by constructor <;> omega) (by constructor <;> omega) (fun h14 => ?_) (fun h14 => ?_)
          · refine J.loc (lv' := [(0, _), (1, _)]) ⟨rfl, rfl, trivial⟩ ?_
            first
              | exact at27 h21 τ ⟨F, f1, f2, f3, hL⟩
              | (exfalso; omega)
          · refine j_aload_n (p2 := 18) dX_mode_17 rfl rfl ?_
            refine j_callV (m' := mX_firstBrokenRule) (As := []) (p2 := 21) dX_mode_18 rfl ml_X_134 ok_mX_firstBrokenRule im_mX_firstBrokenRule se_mX_firstBrokenRule rfl rfl (Nat.le_of_ble_eq_true rfl) ly_0 rfl (Nat.le_of_ble_eq_true rfl) ⟨(Nat.le_of_ble_eq_true rfl), (Nat.le_of_ble_eq_true rfl)⟩ ?_
            refine cX_firstBrokenRule hc hp h01 hf (fun τ F f1 f2 f3 hL => ?_)
            refine j_if_eq (p2 := 24) (tg := 27) dX_mode_21 rfl (by decide) (by constructor <;> omega) (fun h21 => ?_) (fun h21 => ?_)
            · refine J.loc (lv' := [(0, _), (1, _)]) ⟨rfl, rfl, trivial⟩ ?_
              first
                | exact at27 h21 τ ⟨F, f1, f2, f3, hL⟩
                | (exfalso; omega)
            · refine j_bipush (v := (-103)) (p2 := 26) dX_mode_24 rfl rfl ?_
              refine j_ireturn dX_mode_26 rfl (by first | exact q2 rfl h21 τ ⟨F, f1, f2, f3, hL⟩ | (exfalso; omega))
        · refine J.loc (lv' := []) trivial ?_
          exfalso
          omega
    · have z := g
      refine j_iload_n (p2 := 1) dX_mode_0 rfl rfl ?_
      refine j_if_eq (p2 := 4) (tg := 12) dX_mode_1 rfl (by decide) (by constructor <;> omega) (fun h1 => ?_) (fun h1 => ?_)
      · refine J.loc (lv' := [(0, _), (1, _)]) ⟨rfl, rfl, trivial⟩ ?_
        exfalso
        omega
      · refine j_iload_n (p2 := 5) dX_mode_4 rfl rfl ?_
        refine j_iconst (p2 := 6) dX_mode_5 rfl ?_
        refine j_icmp_eq (p2 := 9) (tg := 12) dX_mode_6 rfl (by decide) (by constructor <;> omega) (by constructor <;> omega) (fun h6 => ?_) (fun h6 => ?_)
        · refine J.loc (lv' := [(0, _), (1, _)]) ⟨rfl, rfl, trivial⟩ ?_
          exfalso
          omega
        · refine j_bipush (v := (-102)) (p2 := 11) dX_mode_9 rfl rfl ?_
          refine j_ireturn dX_mode_11 rfl (by exact q1 (by omega))
/-- a run, over any invariant -/
theorem cX_run {S : Nat} {n : Int} {Inv : Nat → Hp → Prop} (hn : inR n) (hmo : inR (hI σ 0 9)) (ht : 0 ≤ hI σ 0 10 ∧ hI σ 0 10 ≤ 300) (hS : hI σ 47 0 = S ∧ S ≤ 6) (hl : ∀ s : Int, 0 ≤ s → s < S → 0 ≤ hI σ 49 s ∧ hI σ 49 s ≤ 120) (q1 : ¬ (1 ≤ n ∧ n ≤ 100) → Q (some (vI (-102))) σ) (q2 : (1 ≤ n ∧ n ≤ 100) → hI σ 0 9 = 0 → Q (some (vI (-103))) σ) (q3 : (1 ≤ n ∧ n ≤ 100) → ¬ hI σ 0 9 = 0 → ¬ (hI σ 0 10 + n ≤ 300 ∧ ∀ s : Int, 0 ≤ s → s < S → hI σ 49 s + n ≤ 120) → Q (some (vI (-104))) σ)
    (q4 : (1 ≤ n ∧ n ≤ 100) → ¬ hI σ 0 9 = 0 → (hI σ 0 10 + n ≤ 300 ∧ ∀ s : Int, 0 ≤ s → s < S → hI σ 49 s + n ≤ 120) → Inv n.toNat (wI σ 0 (fup (hI σ 0) 9 2)))
    (st : ∀ f τ, Inv (f + 1) τ → (hI τ 3 0 = N ∧ N ≤ 20) ∧ inR (hI τ 0 10 + 1) ∧ (∀ m : Int, 0 ≤ m → m < N → inR (hI τ 14 m)) ∧ (∀ m, fnd (fun m => decide (hI τ 14 m = hI τ 0 10 + 1)) N 0 = some m → Q (some (vI (-1000 - m))) τ) ∧ (fnd (fun m => decide (hI τ 14 m = hI τ 0 10 + 1)) N 0 = none → ∀ Q' : Option PV → Hp → Prop, (∀ ν, Inv f ν → Q' none ν) → Sp mX_doStep [vR 0] τ Q'))
    (dn : ∀ τ, Inv 0 τ → Q (some (vI n)) τ) : Sp mX_run [vR 0, vI n] σ Q := by
  have loop : (1 ≤ n ∧ n ≤ 100) → ∀ (f i : Nat), (i : Int) + f = n → ∀ τ, Inv f τ → J mX_run 57 [(0, vR 0), (1, vI n), (2, vI i)] [] τ Q := by
    intro hn2 f
    induction f with
    | zero =>
      intro i h1 τ hi
      refine j_iload_n (p2 := 58) dX_run_57 rfl rfl ?_
      refine j_iload_n (p2 := 59) dX_run_58 rfl rfl ?_
      refine j_icmp_ge (p2 := 62) (tg := 97) dX_run_59 rfl (by decide) (by constructor <;> omega) (by constructor <;> omega) (fun h59 => ?_) (fun h59 => ?_)
      · refine j_iload_n (p2 := 98) dX_run_97 rfl rfl ?_
        refine j_ireturn dX_run_98 rfl (by exact dn τ hi)
      · refine J.loc (lv' := [(0, _), (1, _), (2, _)]) ⟨rfl, rfl, rfl, trivial⟩ ?_
        exfalso
        omega
    | succ f ih =>
      intro i h1 τ hi
      obtain ⟨s1, s2, s3, s4, s5⟩ := st f τ hi
      cases hfn : fnd (fun m => decide (hI τ 14 m = hI τ 0 10 + 1)) N 0 with
      | some x =>
        have hx := fnd_some _ _ _ hfn
        have s4 := s4 x hfn
        refine j_iload_n (p2 := 58) dX_run_57 rfl rfl ?_
        refine j_iload_n (p2 := 59) dX_run_58 rfl rfl ?_
        refine j_icmp_ge (p2 := 62) (tg := 97) dX_run_59 rfl (by decide) (by constructor <;> omega) (by constructor <;> omega) (fun h59 => ?_) (fun h59 => ?_)
        · refine j_iload_n (p2 := 98) dX_run_97 rfl rfl ?_
          refine j_ireturn dX_run_98 rfl (by first | (exfalso; omega) | exact s4)
        · refine j_aload_n (p2 := 63) dX_run_62 rfl rfl ?_
          refine j_getR (p2 := 66) dX_run_63 rfl fa_X_10 ly_0 rfl ?_
          refine j_aload_n (p2 := 67) dX_run_66 rfl rfl ?_
          refine j_getIk (p2 := 70) dX_run_67 rfl fa_X_164 ly_0 rfl (ki := 10) rfl ?_
          refine j_iconst (p2 := 71) dX_run_70 rfl ?_
          refine j_iadd (p2 := 72) dX_run_71 rfl ?_
          refine j_callV (m' := mP_leastFailingAt) (As := [_]) (p2 := 75) dX_run_72 rfl ml_X_170 ok_mP_leastFailingAt im_mP_leastFailingAt se_mP_leastFailingAt rfl rfl (Nat.le_of_ble_eq_true rfl) ly_3 rfl (Nat.le_of_ble_eq_true rfl) ⟨(Nat.le_of_ble_eq_true rfl), (Nat.le_of_ble_eq_true rfl)⟩ ?_
          refine cP_leastFailingAt s1 s2 s3 ?_
          rw [hfn]
          show J _ _ _ (vI x :: _) _ _
          refine j_istore_n (p2 := 76) (lv' := [(0, _), (1, _), (2, _), (3, _)]) dX_run_75 rfl (Nat.le_of_ble_eq_true rfl) ⟨rfl, rfl, rfl, rfl, trivial⟩ ?_
          refine j_iload_n (p2 := 77) dX_run_76 rfl rfl ?_
          refine j_iconst (p2 := 78) dX_run_77 rfl ?_
          refine j_icmp_eq (p2 := 81) (tg := 87) dX_run_78 rfl (by decide) (by constructor <;> omega) (by constructor <;> omega) (fun h78 => ?_) (fun h78 => ?_)
          · refine J.loc (lv' := [(0, _), (1, _), (2, _)]) ⟨rfl, rfl, rfl, trivial⟩ ?_
            exfalso
            omega
          · refine j_sipush (v := (-1000)) (p2 := 84) dX_run_81 rfl rfl ?_
            refine j_iload_n (p2 := 85) dX_run_84 rfl rfl ?_
            refine j_isub (p2 := 86) dX_run_85 rfl ?_
            refine j_ireturn dX_run_86 rfl (by first | (exfalso; omega) | exact s4)
      | none =>
        have s5 := s5 hfn
        refine j_iload_n (p2 := 58) dX_run_57 rfl rfl ?_
        refine j_iload_n (p2 := 59) dX_run_58 rfl rfl ?_
        refine j_icmp_ge (p2 := 62) (tg := 97) dX_run_59 rfl (by decide) (by constructor <;> omega) (by constructor <;> omega) (fun h59 => ?_) (fun h59 => ?_)
        · refine j_iload_n (p2 := 98) dX_run_97 rfl rfl ?_
          refine j_ireturn dX_run_98 rfl (by exfalso; omega)
        · refine j_aload_n (p2 := 63) dX_run_62 rfl rfl ?_
          refine j_getR (p2 := 66) dX_run_63 rfl fa_X_10 ly_0 rfl ?_
          refine j_aload_n (p2 := 67) dX_run_66 rfl rfl ?_
          refine j_getIk (p2 := 70) dX_run_67 rfl fa_X_164 ly_0 rfl (ki := 10) rfl ?_
          refine j_iconst (p2 := 71) dX_run_70 rfl ?_
          refine j_iadd (p2 := 72) dX_run_71 rfl ?_
          refine j_callV (m' := mP_leastFailingAt) (As := [_]) (p2 := 75) dX_run_72 rfl ml_X_170 ok_mP_leastFailingAt im_mP_leastFailingAt se_mP_leastFailingAt rfl rfl (Nat.le_of_ble_eq_true rfl) ly_3 rfl (Nat.le_of_ble_eq_true rfl) ⟨(Nat.le_of_ble_eq_true rfl), (Nat.le_of_ble_eq_true rfl)⟩ ?_
          refine cP_leastFailingAt s1 s2 s3 ?_
          rw [hfn]
          show J _ _ _ (vI (-1) :: _) _ _
          refine j_istore_n (p2 := 76) (lv' := [(0, _), (1, _), (2, _), (3, _)]) dX_run_75 rfl (Nat.le_of_ble_eq_true rfl) ⟨rfl, rfl, rfl, rfl, trivial⟩ ?_
          refine j_iload_n (p2 := 77) dX_run_76 rfl rfl ?_
          refine j_iconst (p2 := 78) dX_run_77 rfl ?_
          refine j_icmp_eq (p2 := 81) (tg := 87) dX_run_78 rfl (by decide) (by constructor <;> omega) (by constructor <;> omega) (fun h78 => ?_) (fun h78 => ?_)
          · refine j_aload_n (p2 := 88) dX_run_87 rfl rfl ?_
            refine j_callV (m' := mX_doStep) (As := []) (p2 := 91) dX_run_88 rfl ml_X_173 ok_mX_doStep im_mX_doStep se_mX_doStep rfl rfl (Nat.le_of_ble_eq_true rfl) ly_0 rfl (Nat.le_of_ble_eq_true rfl) ⟨(Nat.le_of_ble_eq_true rfl), (Nat.le_of_ble_eq_true rfl)⟩ ?_
            refine s5 _ (fun ν hν => ?_)
            refine j_iinc (p2 := 94) (lv' := [(0, _), (1, _), (2, _)]) dX_run_91 rfl (Nat.le_of_ble_eq_true rfl) rfl ⟨rfl, rfl, rfl, trivial⟩ ?_
            refine j_goto (p2 := 57) dX_run_94 (by decide) ?_
            refine J.loc (lv' := [(0, _), (1, _), (2, _)]) ⟨rfl, rfl, rfl, trivial⟩ ?_
            exact ih (i + 1) (by omega) ν hν
          · refine j_sipush (v := (-1000)) (p2 := 84) dX_run_81 rfl rfl ?_
            refine j_iload_n (p2 := 85) dX_run_84 rfl rfl ?_
            refine j_isub (p2 := 86) dX_run_85 rfl ?_
            refine j_ireturn dX_run_86 rfl (by exfalso; omega)
  have at44 : (1 ≤ n ∧ n ≤ 100) → ¬ hI σ 0 9 = 0 → hI σ 0 10 + n ≤ 300 → ∀ x : Int, ((x = 1 ∧ ∀ s : Int, 0 ≤ s → s < S → hI σ 49 s + n ≤ 120) ∨ (x = 0 ∧ ¬ ∀ s : Int, 0 ≤ s → s < S → hI σ 49 s + n ≤ 120)) → J mX_run 44 [(0, vR 0), (1, vI n)] [vI x] σ Q := fun g1 g2 g3 x hx => by
    have hx2 : x = 0 ∨ x = 1 := by rcases hx with h | h; exact Or.inr h.1; exact Or.inl h.1
    refine j_if_ne (p2 := 47) (tg := 50) dX_run_44 rfl (by decide) (by constructor <;> omega) (fun h44 => ?_) (fun h44 => ?_)
    · refine j_aload_n (p2 := 51) dX_run_50 rfl rfl ?_
      refine j_iconst (p2 := 52) dX_run_51 rfl ?_
      refine j_putIk (p2 := 55) dX_run_52 rfl fw_X_68 ly_0 rfl (ki := 9) rfl ?_
      refine j_iconst (p2 := 56) dX_run_55 rfl ?_
      refine j_istore_n (p2 := 57) (lv' := [(0, _), (1, _), (2, _)]) dX_run_56 rfl (Nat.le_of_ble_eq_true rfl) ⟨rfl, rfl, rfl, trivial⟩ ?_
      refine J.loc (lv' := [(0, _), (1, _), (2, _)]) ⟨rfl, rfl, rfl, trivial⟩ ?_
      rcases hx with h | h
      · exact loop g1 n.toNat 0 (by omega) _ (q4 g1 g2 ⟨g3, h.2⟩)
      · exact absurd h.1 h44
    · refine j_bipush (v := (-104)) (p2 := 49) dX_run_47 rfl rfl ?_
      refine j_ireturn dX_run_49 rfl (by rcases hx with h | h; exact absurd h44 (by rw [h.1]; decide); exact q3 g1 g2 (fun q => h.2 q.2))
  refine j_iload_n (p2 := 1) dX_run_0 rfl rfl ?_
  refine j_iconst (p2 := 2) dX_run_1 rfl ?_
  refine j_icmp_lt (p2 := 5) (tg := 11) dX_run_2 rfl (by decide) (by constructor <;> omega) (by constructor <;> omega) (fun h2 => ?_) (fun h2 => ?_)
  · refine j_bipush (v := (-102)) (p2 := 13) dX_run_11 rfl rfl ?_
    refine j_ireturn dX_run_13 rfl (by first | exact q1 (by omega) | exact q2 (by omega) h18 | exact q3 (by omega) h18 (fun q => by omega))
  · refine j_iload_n (p2 := 6) dX_run_5 rfl rfl ?_
    refine j_bipush (v := 100) (p2 := 8) dX_run_6 rfl rfl ?_
    refine j_icmp_le (p2 := 11) (tg := 14) dX_run_8 rfl (by decide) (by constructor <;> omega) (by constructor <;> omega) (fun h8 => ?_) (fun h8 => ?_)
    · refine j_aload_n (p2 := 15) dX_run_14 rfl rfl ?_
      refine j_getIk (p2 := 18) dX_run_15 rfl fa_X_68 ly_0 rfl (ki := 9) rfl ?_
      refine j_if_ne (p2 := 21) (tg := 24) dX_run_18 rfl (by decide) (by exact hmo) (fun h18 => ?_) (fun h18 => ?_)
      · refine j_aload_n (p2 := 25) dX_run_24 rfl rfl ?_
        refine j_getIk (p2 := 28) dX_run_25 rfl fa_X_164 ly_0 rfl (ki := 10) rfl ?_
        refine j_iload_n (p2 := 29) dX_run_28 rfl rfl ?_
        refine j_iadd (p2 := 30) dX_run_29 rfl ?_
        refine j_sipush (v := 300) (p2 := 33) dX_run_30 rfl rfl ?_
        refine j_icmp_gt (p2 := 36) (tg := 47) dX_run_33 rfl (by decide) (by constructor <;> omega) (by constructor <;> omega) (fun h33 => ?_) (fun h33 => ?_)
        · refine j_bipush (v := (-104)) (p2 := 49) dX_run_47 rfl rfl ?_
          refine j_ireturn dX_run_49 rfl (by first | exact q1 (by omega) | exact q2 (by omega) h18 | exact q3 (by omega) h18 (fun q => by omega))
        · refine j_aload_n (p2 := 37) dX_run_36 rfl rfl ?_
          refine j_getR (p2 := 40) dX_run_37 rfl fa_X_47 ly_0 rfl ?_
          refine j_iload_n (p2 := 41) dX_run_40 rfl rfl ?_
          refine j_callV (m' := mS_haveRoomFor) (As := [_]) (p2 := 44) dX_run_41 rfl ml_X_167 ok_mS_haveRoomFor im_mS_haveRoomFor se_mS_haveRoomFor rfl rfl (Nat.le_of_ble_eq_true rfl) ly_47 rfl (Nat.le_of_ble_eq_true rfl) ⟨(Nat.le_of_ble_eq_true rfl), (Nat.le_of_ble_eq_true rfl)⟩ ?_
          refine cS_haveRoomFor hS hl ⟨by omega, by omega⟩ (fun hroom => ?_) (fun hroom => ?_)
          · exact at44 (by omega) h18 (by omega) 1 (Or.inl ⟨rfl, hroom⟩)
          · exact at44 (by omega) h18 (by omega) 0 (Or.inr ⟨rfl, hroom⟩)
          skip
      · refine j_bipush (v := (-103)) (p2 := 23) dX_run_21 rfl rfl ?_
        refine j_ireturn dX_run_23 rfl (by first | exact q1 (by omega) | exact q2 (by omega) h18 | exact q3 (by omega) h18 (fun q => by omega))
    · refine j_bipush (v := (-102)) (p2 := 13) dX_run_11 rfl rfl ?_
      refine j_ireturn dX_run_13 rfl (by first | exact q1 (by omega) | exact q2 (by omega) h18 | exact q3 (by omega) h18 (fun q => by omega))
end PAN9
