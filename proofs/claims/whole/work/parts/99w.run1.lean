/-! ===== the reference: run, with what it leaves ===== -/
section RRN
variable {σ : Hp} {Q : Option PV → Hp → Prop} {N S : Nat}
theorem rn_loop2 {n : Nat} (hn : n ≤ 100) : ∀ (f k : Nat) (σ : Hp), k + f = n → RnI σ N S f → (WS (rnR N S f σ n).2 N → Zr (rnR N S f σ n).2 N → Q (some (vI (rnR N S f σ n).1)) (rnR N S f σ n).2) → J mM_run 89 [(0, vR 69), (1, vI n), (2, vI k)] [] σ Q := by
  intro f
  induction f with
  | zero =>
    intro k σ h1 hi hq
    refine j_iload_n (p2 := 90) dM_run_89 rfl rfl ?_
    refine j_iload_n (p2 := 91) dM_run_90 rfl rfl ?_
    refine j_icmp_ge (p2 := 94) (tg := 165) dM_run_91 rfl (by decide) (by constructor <;> omega) (by constructor <;> omega) (fun h91 => ?_) (fun h91 => ?_)
    · refine j_iload_n (p2 := 166) dM_run_165 rfl rfl ?_
      refine j_ireturn dM_run_166 rfl (by exact hq hi.1 hi.2.1)
    · refine J.loc (lv' := [(0, _), (1, _), (2, _)]) ⟨rfl, rfl, rfl, trivial⟩ ?_
      exfalso
      omega
  | succ f ih =>
    intro k σ h1 hi hq
    have hi2 := hi
    obtain ⟨g1, g2, g3, g4, g5, g6, g7, g8⟩ := hi2
    have hN := g1.1.1
    have hN2 := g1.1.2.1
    have w0 := lt_W g1 (by constructor <;> omega)
    have z0 := lt_Z g2
    have go : (WS (rnR N S f (oneH σ N S) n).2 N → Zr (rnR N S f (oneH σ N S) n).2 N → Q (some (vI (rnR N S f (oneH σ N S) n).1)) (rnR N S f (oneH σ N S) n).2) → J mM_run 131 [(0, vR 69), (1, vI n), (2, vI k)] [] σ Q := by
      intro hq2
      refine j_aload_n (p2 := 132) dM_run_131 rfl rfl ?_
      refine j_aload_n (p2 := 133) dM_run_132 rfl rfl ?_
      refine j_getIk (p2 := 136) dM_run_133 rfl fa_M_322 ly_69 rfl (ki := 12) rfl ?_
      refine j_iconst (p2 := 137) dM_run_136 rfl ?_
      refine j_iadd (p2 := 138) dM_run_137 rfl ?_
      refine j_putIk (p2 := 141) dM_run_138 rfl fw_M_233 ly_69 rfl (ki := 44) rfl ?_
      refine j_aload_n (p2 := 142) dM_run_141 rfl rfl ?_
      refine j_callV (m' := mM_step) (As := []) (p2 := 145) dM_run_142 rfl ml_M_347 ok_mM_step im_mM_step se_mM_step rfl rfl (Nat.le_of_ble_eq_true rfl) ly_69 rfl (Nat.le_of_ble_eq_true rfl) ⟨(Nat.le_of_ble_eq_true rfl), (Nat.le_of_ble_eq_true rfl)⟩ ?_
      refine cM_step (σ := ltH σ) w0 z0 g3 ?_ (fun w => ?_)
      · show 0 ≤ fup (hI σ 69) 44 (hI σ 69 12 + 1) 13 ∧ fup (hI σ 69) 44 (hI σ 69 12 + 1) 13 ≤ 2
        rw [fup_n (by decide)]; exact g4
      have hnx := rn_next hi w
      refine j_aload_n (p2 := 146) dM_run_145 rfl rfl ?_
      refine j_dup (p2 := 147) dM_run_146 rfl rfl ?_
      refine j_getIk (p2 := 150) dM_run_147 rfl fa_M_350 ly_69 rfl (ki := 15) rfl ?_
      refine j_iconst (p2 := 151) dM_run_150 rfl ?_
      refine j_iadd (p2 := 152) dM_run_151 rfl ?_
      refine j_putIk (p2 := 155) dM_run_152 rfl fw_M_350 ly_69 rfl (ki := 15) rfl ?_
      refine j_aload_n (p2 := 156) dM_run_155 rfl rfl ?_
      refine j_callV (m' := mM_toStrips) (As := []) (p2 := 159) dM_run_156 rfl ml_M_341 ok_mM_toStrips im_mM_toStrips se_mM_toStrips rfl rfl (Nat.le_of_ble_eq_true rfl) ly_69 rfl (Nat.le_of_ble_eq_true rfl) ⟨(Nat.le_of_ble_eq_true rfl), (Nat.le_of_ble_eq_true rfl)⟩ ?_
      refine cM_toStrips (σ := spH (stepH (ltH σ) N)) (N := S) ⟨?_, g5.2⟩ (fun s a b => ?_) ?_
      · have e : hI (spH (stepH (ltH σ) N)) 69 = fup (hI (stepH (ltH σ) N) 69) 15 (hI (stepH (ltH σ) N) 69 15 + 1) := rfl
        rw [e, fup_n (by decide), stepH_69I, fup_n (by decide)]
        show fup (hI σ 69) 44 (hI σ 69 12 + 1) 37 = S
        rw [fup_n (by decide)]; exact g5.1
      · have e1 : hI (spH (stepH (ltH σ) N)) 101 = hI σ 101 := by
          have e : hI (spH (stepH (ltH σ) N)) 101 = hI (stepH (ltH σ) N) 101 := rfl
          rw [e, stepH_I101]; rfl
        have e2 : hI (spH (stepH (ltH σ) N)) 100 = hI σ 100 := by
          have e : hI (spH (stepH (ltH σ) N)) 100 = hI (stepH (ltH σ) N) 100 := rfl
          rw [e, stepH_I100]; rfl
        rw [e1, e2]; have := g8 s a b; omega
      refine j_iinc (p2 := 162) (lv' := [(0, _), (1, _), (2, _)]) dM_run_159 rfl (Nat.le_of_ble_eq_true rfl) rfl ⟨rfl, rfl, rfl, trivial⟩ ?_
      refine j_goto (p2 := 89) dM_run_162 (by decide) ?_
      refine J.loc (lv' := [(0, _), (1, _), (2, _)]) ⟨rfl, rfl, rfl, trivial⟩ ?_
      exact ih (k + 1) _ (by omega) hnx hq2
    have inner : ∀ (d i : Nat), i + d = N → (∀ r, r = (match fnd (fun m => decide (hI σ 78 m = hI σ 69 12 + 1)) d i with | some m => (-1000 - m, σ) | none => rnR N S f (oneH σ N S) n) → WS r.2 N → Zr r.2 N → Q (some (vI r.1)) r.2) → J mM_run 96 [(0, vR 69), (1, vI n), (2, vI k), (3, vI i)] [] σ Q := by
      intro d
      induction d with
      | zero =>
        intro i a hq2
        refine j_iload_n (p2 := 97) dM_run_96 rfl rfl ?_
        refine j_aload_n (p2 := 98) dM_run_97 rfl rfl ?_
        refine j_getIk (p2 := 101) dM_run_98 rfl fa_M_158 ly_69 rfl (ki := 0) rfl ?_
        refine j_icmp_ge (p2 := 104) (tg := 131) dM_run_101 rfl (by decide) (by constructor <;> omega) (by constructor <;> omega) (fun h101 => ?_) (fun h101 => ?_)
        · refine J.loc (lv' := [(0, _), (1, _), (2, _)]) ⟨rfl, rfl, rfl, trivial⟩ ?_
          exact go (hq2 _ rfl)
        · refine J.loc (lv' := [(0, _), (1, _), (2, _), (3, _)]) ⟨rfl, rfl, rfl, rfl, trivial⟩ ?_
          exfalso
          omega
      | succ d ih2 =>
        intro i a hq2
        have yes : hI σ 78 i = hI σ 69 12 + 1 → Q (some (vI (-1000 - (i : Int)))) σ := fun c => by
          have e : fnd (fun m => decide (hI σ 78 m = hI σ 69 12 + 1)) (d + 1) i = some (i : Int) := if_pos (decide_eq_true c)
          rw [e] at hq2
          exact hq2 _ rfl g1 g2
        have no : ¬ hI σ 78 i = hI σ 69 12 + 1 → J mM_run 96 [(0, vR 69), (1, vI n), (2, vI k), (3, vI (i + 1))] [] σ Q := fun c => by
          have e : fnd (fun m => decide (hI σ 78 m = hI σ 69 12 + 1)) (d + 1) i = fnd (fun m => decide (hI σ 78 m = hI σ 69 12 + 1)) d (i + 1) := if_neg (fun q => c (of_decide_eq_true q))
          rw [e] at hq2
          exact ih2 (i + 1) (by omega) hq2
        refine j_iload_n (p2 := 97) dM_run_96 rfl rfl ?_
        refine j_aload_n (p2 := 98) dM_run_97 rfl rfl ?_
        refine j_getIk (p2 := 101) dM_run_98 rfl fa_M_158 ly_69 rfl (ki := 0) rfl ?_
        refine j_icmp_ge (p2 := 104) (tg := 131) dM_run_101 rfl (by decide) (by constructor <;> omega) (by constructor <;> omega) (fun h101 => ?_) (fun h101 => ?_)
        · refine J.loc (lv' := [(0, _), (1, _), (2, _)]) ⟨rfl, rfl, rfl, trivial⟩ ?_
          exfalso
          omega
        · refine j_aload_n (p2 := 105) dM_run_104 rfl rfl ?_
          refine j_getR (p2 := 108) dM_run_105 rfl fa_M_36 ly_69 rfl ?_
          refine j_iload_n (p2 := 109) dM_run_108 rfl rfl ?_
          refine j_iald (p2 := 110) dM_run_109 rfl ly_78 (by decide) (by omega) (by omega) ?_
          refine j_aload_n (p2 := 111) dM_run_110 rfl rfl ?_
          refine j_getIk (p2 := 114) dM_run_111 rfl fa_M_322 ly_69 rfl (ki := 12) rfl ?_
          refine j_iconst (p2 := 115) dM_run_114 rfl ?_
          refine j_iadd (p2 := 116) dM_run_115 rfl ?_
          refine j_icmp_ne (p2 := 119) (tg := 125) dM_run_116 rfl (by decide) (g7 i (by omega) (by omega)) (by constructor <;> omega) (fun h116 => ?_) (fun h116 => ?_)
          · refine j_iinc (p2 := 128) (lv' := [(0, _), (1, _), (2, _), (3, _)]) dM_run_125 rfl (Nat.le_of_ble_eq_true rfl) rfl ⟨rfl, rfl, rfl, rfl, trivial⟩ ?_
            refine j_goto (p2 := 96) dM_run_128 (by decide) ?_
            refine J.loc (lv' := [(0, _), (1, _), (2, _), (3, _)]) ⟨rfl, rfl, rfl, rfl, trivial⟩ ?_
            exact no h116
          · refine j_sipush (v := (-1000)) (p2 := 122) dM_run_119 rfl rfl ?_
            refine j_iload_n (p2 := 123) dM_run_122 rfl rfl ?_
            refine j_isub (p2 := 124) dM_run_123 rfl ?_
            refine j_ireturn dM_run_124 rfl (by exact yes h116)
    refine j_iload_n (p2 := 90) dM_run_89 rfl rfl ?_
    refine j_iload_n (p2 := 91) dM_run_90 rfl rfl ?_
    refine j_icmp_ge (p2 := 94) (tg := 165) dM_run_91 rfl (by decide) (by constructor <;> omega) (by constructor <;> omega) (fun h91 => ?_) (fun h91 => ?_)
    · refine j_iload_n (p2 := 166) dM_run_165 rfl rfl ?_
      refine j_ireturn dM_run_166 rfl (by exfalso; omega)
    · refine j_iconst (p2 := 95) dM_run_94 rfl ?_
      refine j_istore_n (p2 := 96) (lv' := [(0, _), (1, _), (2, _), (3, _)]) dM_run_95 rfl (Nat.le_of_ble_eq_true rfl) ⟨rfl, rfl, rfl, rfl, trivial⟩ ?_
      refine J.loc (lv' := [(0, _), (1, _), (2, _), (3, _)]) ⟨rfl, rfl, rfl, rfl, trivial⟩ ?_
      exact inner N 0 (by omega) (fun r hr => by rw [hr]; exact hq)
theorem cM_run2 {n : Int} {k : Nat} (hs : Sc σ) (hn : inR n) (hS : hI σ 69 37 = S) (hk : hI σ 69 14 = k ∧ k ≤ 20) (ht : 0 ≤ hI σ 69 12 ∧ hI σ 69 12 ≤ 300) (hsm : ∀ s : Int, 0 ≤ s → s < S → 0 ≤ hI σ 101 s ∧ hI σ 101 s ≤ 120) (h1 : ¬ (1 ≤ n ∧ n ≤ 100) → Q (some (vI (-102))) σ) (h2 : (1 ≤ n ∧ n ≤ 100) → hI σ 69 11 = 0 → Q (some (vI (-103))) σ) (h3 : (1 ≤ n ∧ n ≤ 100) → ¬ hI σ 69 11 = 0 → ¬ (hI σ 69 12 + n ≤ 300 ∧ rmS σ S n) → Q (some (vI (-104))) σ)
    (h4 : (1 ≤ n ∧ n ≤ 100) → ¬ hI σ 69 11 = 0 → (hI σ 69 12 + n ≤ 300 ∧ rmS σ S n) → RnI (hdH σ k) N S n.toNat ∧ (WS (rnR N S n.toNat (hdH σ k) n).2 N → Zr (rnR N S n.toNat (hdH σ k) n).2 N → Q (some (vI (rnR N S n.toNat (hdH σ k) n).1)) (rnR N S n.toNat (hdH σ k) n).2)) : Sp mM_run [vR 69, vI n] σ Q := by
  obtain ⟨s1, s2, s3, s4⟩ := hs
  have at70 : (1 ≤ n ∧ n ≤ 100) → ¬ hI σ 69 11 = 0 → (hI σ 69 12 + n ≤ 300 ∧ rmS σ S n) → J mM_run 70 [(0, vR 69), (1, vI n)] [] σ Q := by
    intro a b c
    obtain ⟨r1, r2⟩ := h4 a b c
    obtain ⟨j, hj⟩ : ∃ j : Nat, n = j := ⟨n.toNat, by omega⟩
    subst hj
    rw [Int.toNat_natCast] at r1 r2
    have ek : hI (wI σ 69 (fup (hI σ 69) 11 2)) 69 14 = k := by
      show fup (hI σ 69) 11 2 14 = k
      rw [fup_n (by decide)]; exact hk.1
    refine j_aload_n (p2 := 71) dM_run_70 rfl rfl ?_
    refine j_iconst (p2 := 72) dM_run_71 rfl ?_
    refine j_putIk (p2 := 75) dM_run_72 rfl fw_M_195 ly_69 rfl (ki := 11) rfl ?_
    refine j_aload_n (p2 := 76) dM_run_75 rfl rfl ?_
    refine j_aload_n (p2 := 77) dM_run_76 rfl rfl ?_
    refine j_aload_n (p2 := 78) dM_run_77 rfl rfl ?_
    refine j_getIk (p2 := 81) dM_run_78 rfl fa_M_42 ly_69 rfl (ki := 14) rfl ?_
    refine j_callV (m' := mM_lengthOf) (As := [_]) (p2 := 84) dM_run_81 rfl ml_M_344 ok_mM_lengthOf im_mM_lengthOf se_mM_lengthOf rfl rfl (Nat.le_of_ble_eq_true rfl) ly_69 rfl (Nat.le_of_ble_eq_true rfl) ⟨(Nat.le_of_ble_eq_true rfl), (Nat.le_of_ble_eq_true rfl)⟩ ?_
    rw [ek]
    refine cM_lengthOf (by omega) ?_
    refine j_putDk (p2 := 87) dM_run_84 rfl fw_M_297 ly_69 rfl (ki := 45) rfl ?_
    refine j_iconst (p2 := 88) dM_run_87 rfl ?_
    refine j_istore_n (p2 := 89) (lv' := [(0, _), (1, _), (2, _)]) dM_run_88 rfl (Nat.le_of_ble_eq_true rfl) ⟨rfl, rfl, rfl, trivial⟩ ?_
    refine J.loc (lv' := [(0, _), (1, _), (2, _)]) ⟨rfl, rfl, rfl, trivial⟩ ?_
    exact rn_loop2 (by omega) j 0 (hdH σ k) (by omega) r1 r2
  have loop : (1 ≤ n ∧ n ≤ 100) → ¬ hI σ 69 11 = 0 → hI σ 69 12 + n ≤ 300 → ∀ (d i : Nat), i + d = S → (∀ s : Int, 0 ≤ s → s < i → hI σ 101 s + n ≤ 120) → J mM_run 40 [(0, vR 69), (1, vI n), (2, vI i)] [] σ Q := by
    intro a b c d
    induction d with
    | zero =>
      intro i e f
      have e2 : i = S := by omega
      subst e2
      refine j_iload_n (p2 := 41) dM_run_40 rfl rfl ?_
      refine j_aload_n (p2 := 42) dM_run_41 rfl rfl ?_
      refine j_getIk (p2 := 45) dM_run_42 rfl fa_M_332 ly_69 rfl (ki := 37) rfl ?_
      refine j_icmp_ge (p2 := 48) (tg := 70) dM_run_45 rfl (by decide) (by constructor <;> omega) (by constructor <;> omega) (fun h45 => ?_) (fun h45 => ?_)
      · refine J.loc (lv' := [(0, _), (1, _)]) ⟨rfl, rfl, trivial⟩ ?_
        exact at70 a b ⟨c, f⟩
      · refine J.loc (lv' := [(0, _), (1, _), (2, _)]) ⟨rfl, rfl, rfl, trivial⟩ ?_
        exfalso
        omega
    | succ d ih =>
      intro i e f
      have hsi := hsm i (by omega) (by omega)
      refine j_iload_n (p2 := 41) dM_run_40 rfl rfl ?_
      refine j_aload_n (p2 := 42) dM_run_41 rfl rfl ?_
      refine j_getIk (p2 := 45) dM_run_42 rfl fa_M_332 ly_69 rfl (ki := 37) rfl ?_
      refine j_icmp_ge (p2 := 48) (tg := 70) dM_run_45 rfl (by decide) (by constructor <;> omega) (by constructor <;> omega) (fun h45 => ?_) (fun h45 => ?_)
      · refine J.loc (lv' := [(0, _), (1, _)]) ⟨rfl, rfl, trivial⟩ ?_
        exfalso
        omega
      · refine j_aload_n (p2 := 49) dM_run_48 rfl rfl ?_
        refine j_getR (p2 := 52) dM_run_49 rfl fa_M_110 ly_69 rfl ?_
        refine j_iload_n (p2 := 53) dM_run_52 rfl rfl ?_
        refine j_iald (p2 := 54) dM_run_53 rfl ly_101 (by decide) (by omega) (by omega) ?_
        refine j_iload_n (p2 := 55) dM_run_54 rfl rfl ?_
        refine j_iadd (p2 := 56) dM_run_55 rfl ?_
        refine j_bipush (v := 120) (p2 := 58) dM_run_56 rfl rfl ?_
        refine j_icmp_le (p2 := 61) (tg := 64) dM_run_58 rfl (by decide) (by constructor <;> omega) (by constructor <;> omega) (fun h58 => ?_) (fun h58 => ?_)
        · refine j_iinc (p2 := 67) (lv' := [(0, _), (1, _), (2, _)]) dM_run_64 rfl (Nat.le_of_ble_eq_true rfl) rfl ⟨rfl, rfl, rfl, trivial⟩ ?_
          refine j_goto (p2 := 40) dM_run_67 (by decide) ?_
          refine J.loc (lv' := [(0, _), (1, _), (2, _)]) ⟨rfl, rfl, rfl, trivial⟩ ?_
          refine ih (i + 1) (by omega) (fun s x y => ?_)
          by_cases z : s = i
          · rw [z]; omega
          · exact f s x (by omega)
        · refine j_bipush (v := (-104)) (p2 := 63) dM_run_61 rfl rfl ?_
          refine j_ireturn dM_run_63 rfl (by refine h3 a b (fun q => ?_); have := q.2 i (by omega) (by omega); omega)
  refine j_iload_n (p2 := 1) dM_run_0 rfl rfl ?_
  refine j_iconst (p2 := 2) dM_run_1 rfl ?_
  refine j_bipush (v := 100) (p2 := 4) dM_run_2 rfl rfl ?_
  refine j_callS (m' := mM_in) (As := [_, _, _]) (p2 := 7) dM_run_4 rfl ml_M_161 ok_mM_in sm_mM_in rfl rfl (Nat.le_of_ble_eq_true rfl) (Nat.le_of_ble_eq_true rfl) ⟨(Nat.le_of_ble_eq_true rfl), (Nat.le_of_ble_eq_true rfl)⟩ ?_
  refine cM_in hn (by constructor <;> omega) (by constructor <;> omega) ?_
  refine j_ifb_ne (p2 := 10) (tg := 13) dM_run_7 rfl (by decide) (fun h7 => ?_) (fun h7 => ?_)
  · refine J.loc (lv' := [(0, _), (1, _)]) ⟨rfl, rfl, trivial⟩ ?_
    have a := dec_t h7
    refine j_aload_n (p2 := 14) dM_run_13 rfl rfl ?_
    refine j_getIk (p2 := 17) dM_run_14 rfl fa_M_195 ly_69 rfl (ki := 11) rfl ?_
    refine j_if_ne (p2 := 20) (tg := 23) dM_run_17 rfl (by decide) (by constructor <;> omega) (fun h17 => ?_) (fun h17 => ?_)
    · refine j_aload_n (p2 := 24) dM_run_23 rfl rfl ?_
      refine j_getIk (p2 := 27) dM_run_24 rfl fa_M_322 ly_69 rfl (ki := 12) rfl ?_
      refine j_iload_n (p2 := 28) dM_run_27 rfl rfl ?_
      refine j_iadd (p2 := 29) dM_run_28 rfl ?_
      refine j_sipush (v := 300) (p2 := 32) dM_run_29 rfl rfl ?_
      refine j_icmp_le (p2 := 35) (tg := 38) dM_run_32 rfl (by decide) (by constructor <;> omega) (by constructor <;> omega) (fun h32 => ?_) (fun h32 => ?_)
      · refine j_iconst (p2 := 39) dM_run_38 rfl ?_
        refine j_istore_n (p2 := 40) (lv' := [(0, _), (1, _), (2, _)]) dM_run_39 rfl (Nat.le_of_ble_eq_true rfl) ⟨rfl, rfl, rfl, trivial⟩ ?_
        refine J.loc (lv' := [(0, _), (1, _), (2, _)]) ⟨rfl, rfl, rfl, trivial⟩ ?_
        exact loop a h17 h32 S 0 (by omega) (fun s x y => absurd y (by omega))
      · refine j_bipush (v := (-104)) (p2 := 37) dM_run_35 rfl rfl ?_
        refine j_ireturn dM_run_37 rfl (by exact h3 a h17 (fun q => by omega))
    · refine j_bipush (v := (-103)) (p2 := 22) dM_run_20 rfl rfl ?_
      refine j_ireturn dM_run_22 rfl (by exact h2 a h17)
  · refine j_bipush (v := (-102)) (p2 := 12) dM_run_10 rfl rfl ?_
    refine j_ireturn dM_run_12 rfl (by exact h1 (of_decide_eq_false h7))
end RRN
