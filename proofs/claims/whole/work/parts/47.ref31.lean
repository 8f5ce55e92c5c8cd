/-! ===== the reference: run, whole ===== -/
section REF31
variable {σ : Hp} {Q : Option PV → Hp → Prop} {N S : Nat}
def hdH (σ : Hp) (k : Nat) : Hp := wD (wI σ 69 (fup (hI σ 69) 11 2)) 69 (fup (hD σ 69) 45 (lenD k))
abbrev rmS (σ : Hp) (S : Nat) (n : Int) : Prop := ∀ s : Int, 0 ≤ s → s < S → hI σ 101 s + n ≤ 120
theorem cM_run {n : Int} {k : Nat} (hs : Sc σ) (hn : inR n) (hS : hI σ 69 37 = S) (hk : hI σ 69 14 = k ∧ k ≤ 20) (ht : 0 ≤ hI σ 69 12 ∧ hI σ 69 12 ≤ 300) (hsm : ∀ s : Int, 0 ≤ s → s < S → 0 ≤ hI σ 101 s ∧ hI σ 101 s ≤ 120) (h1 : ¬ (1 ≤ n ∧ n ≤ 100) → Q (some (vI (-102))) σ) (h2 : (1 ≤ n ∧ n ≤ 100) → hI σ 69 11 = 0 → Q (some (vI (-103))) σ) (h3 : (1 ≤ n ∧ n ≤ 100) → ¬ hI σ 69 11 = 0 → ¬ (hI σ 69 12 + n ≤ 300 ∧ rmS σ S n) → Q (some (vI (-104))) σ)
    (h4 : (1 ≤ n ∧ n ≤ 100) → ¬ hI σ 69 11 = 0 → (hI σ 69 12 + n ≤ 300 ∧ rmS σ S n) → RnI (hdH σ k) N S n.toNat ∧ Q (some (vI (rnR N S n.toNat (hdH σ k) n).1)) (rnR N S n.toNat (hdH σ k) n).2) : Sp mM_run [vR 69, vI n] σ Q := by
  obtain ⟨s1, s2, s3, s4⟩ := hs
  have at70 : (1 ≤ n ∧ n ≤ 100) → ¬ hI σ 69 11 = 0 → (hI σ 69 12 + n ≤ 300 ∧ rmS σ S n) → J mM_run 70 [(0, vR 69), (1, vI n)] [] σ Q := by
    intro a b c
    obtain ⟨r1, r2⟩ := h4 a b c
    obtain ⟨j, hj⟩ : ∃ j : Nat, n = j := ⟨n.toNat, by omega⟩
    subst hj
    rw [Int.toNat_natCast] at r1 r2
    have ek : hI (wI σ 69 (fup (hI σ 69) 11 2)) 69 14 = k := by
      show fup (hI σ 69) 11 2 14 = k
      rw [fup_n (by decide)]; exact hk.1
    refine j_aload_n (p2 := 71) dM_run_70 rfl rfl ?_
    refine j_iconst (p2 := 72) dM_run_71 rfl ?_
    refine j_putIk (p2 := 75) dM_run_72 rfl fw_M_195 ly_69 rfl (ki := 11) rfl ?_
    refine j_aload_n (p2 := 76) dM_run_75 rfl rfl ?_
    refine j_aload_n (p2 := 77) dM_run_76 rfl rfl ?_
    refine j_aload_n (p2 := 78) dM_run_77 rfl rfl ?_
    refine j_getIk (p2 := 81) dM_run_78 rfl fa_M_42 ly_69 rfl (ki := 14) rfl ?_
    refine j_callV (m' := mM_lengthOf) (As := [_]) (p2 := 84) dM_run_81 rfl ml_M_344 ok_mM_lengthOf im_mM_lengthOf se_mM_lengthOf rfl rfl (Nat.le_of_ble_eq_true rfl) ly_69 rfl (Nat.le_of_ble_eq_true rfl) ⟨(Nat.le_of_ble_eq_true rfl), (Nat.le_of_ble_eq_true rfl)⟩ ?_
    rw [ek]
    refine cM_lengthOf (by omega) ?_
    refine j_putDk (p2 := 87) dM_run_84 rfl fw_M_297 ly_69 rfl (ki := 45) rfl ?_
    refine j_iconst (p2 := 88) dM_run_87 rfl ?_
    refine j_istore_n (p2 := 89) (lv' := [(0, _), (1, _), (2, _)]) dM_run_88 rfl (Nat.le_of_ble_eq_true rfl) ⟨rfl, rfl, rfl, trivial⟩ ?_
    refine J.loc (lv' := [(0, _), (1, _), (2, _)]) ⟨rfl, rfl, rfl, trivial⟩ ?_
    exact rn_loop (by omega) j 0 (hdH σ k) (by omega) r1 r2
  have loop : (1 ≤ n ∧ n ≤ 100) → ¬ hI σ 69 11 = 0 → hI σ 69 12 + n ≤ 300 → ∀ (d i : Nat), i + d = S → (∀ s : Int, 0 ≤ s → s < i → hI σ 101 s + n ≤ 120) → J mM_run 40 [(0, vR 69), (1, vI n), (2, vI i)] [] σ Q := by
    intro a b c d
    induction d with
    | zero =>
      intro i e f
      have e2 : i = S := by omega
      subst e2
      refine j_iload_n (p2 := 41) dM_run_40 rfl rfl ?_
      refine j_aload_n (p2 := 42) dM_run_41 rfl rfl ?_
      refine j_getIk (p2 := 45) dM_run_42 rfl fa_M_332 ly_69 rfl (ki := 37) rfl ?_
      refine j_icmp_ge (p2 := 48) (tg := 70) dM_run_45 rfl (by decide) (by constructor <;> omega) (by constructor <;> omega) (fun h45 => ?_) (fun h45 => ?_)
      · refine J.loc (lv' := [(0, _), (1, _)]) ⟨rfl, rfl, trivial⟩ ?_
        exact at70 a b ⟨c, f⟩
      · refine J.loc (lv' := [(0, _), (1, _), (2, _)]) ⟨rfl, rfl, rfl, trivial⟩ ?_
        exfalso
        omega
    | succ d ih =>
      intro i e f
      have hsi := hsm i (by omega) (by omega)
      refine j_iload_n (p2 := 41) dM_run_40 rfl rfl ?_
      refine j_aload_n (p2 := 42) dM_run_41 rfl rfl ?_
      refine j_getIk (p2 := 45) dM_run_42 rfl fa_M_332 ly_69 rfl (ki := 37) rfl ?_
      refine j_icmp_ge (p2 := 48) (tg := 70) dM_run_45 rfl (by decide) (by constructor <;> omega) (by constructor <;> omega) (fun h45 => ?_) (fun h45 => ?_)
      · refine J.loc (lv' := [(0, _), (1, _)]) ⟨rfl, rfl, trivial⟩ ?_
        exfalso
        omega
      · refine j_aload_n (p2 := 49) dM_run_48 rfl rfl ?_
        refine j_getR (p2 := 52) dM_run_49 rfl fa_M_110 ly_69 rfl ?_
        refine j_iload_n (p2 := 53) dM_run_52 rfl rfl ?_
        refine j_iald (p2 := 54) dM_run_53 rfl ly_101 (by decide) (by omega) (by omega) ?_
        refine j_iload_n (p2 := 55) dM_run_54 rfl rfl ?_
        refine j_iadd (p2 := 56) dM_run_55 rfl ?_
        refine j_bipush (v := 120) (p2 := 58) dM_run_56 rfl rfl ?_
        refine j_icmp_le (p2 := 61) (tg := 64) dM_run_58 rfl (by decide) (by constructor <;> omega) (by constructor <;> omega) (fun h58 => ?_) (fun h58 => ?_)
        · refine j_iinc (p2 := 67) (lv' := [(0, _), (1, _), (2, _)]) dM_run_64 rfl (Nat.le_of_ble_eq_true rfl) rfl ⟨rfl, rfl, rfl, trivial⟩ ?_
          refine j_goto (p2 := 40) dM_run_67 (by decide) ?_
          refine J.loc (lv' := [(0, _), (1, _), (2, _)]) ⟨rfl, rfl, rfl, trivial⟩ ?_
          refine ih (i + 1) (by omega) (fun s x y => ?_)
          by_cases z : s = i
          · rw [z]; omega
          · exact f s x (by omega)
        · refine j_bipush (v := (-104)) (p2 := 63) dM_run_61 rfl rfl ?_
          refine j_ireturn dM_run_63 rfl (by refine h3 a b (fun q => ?_); have := q.2 i (by omega) (by omega); omega)
  refine j_iload_n (p2 := 1) dM_run_0 rfl rfl ?_
  refine j_iconst (p2 := 2) dM_run_1 rfl ?_
  refine j_bipush (v := 100) (p2 := 4) dM_run_2 rfl rfl ?_
  refine j_callS (m' := mM_in) (As := [_, _, _]) (p2 := 7) dM_run_4 rfl ml_M_161 ok_mM_in sm_mM_in rfl rfl (Nat.le_of_ble_eq_true rfl) (Nat.le_of_ble_eq_true rfl) ⟨(Nat.le_of_ble_eq_true rfl), (Nat.le_of_ble_eq_true rfl)⟩ ?_
  refine cM_in hn (by constructor <;> omega) (by constructor <;> omega) ?_
  refine j_ifb_ne (p2 := 10) (tg := 13) dM_run_7 rfl (by decide) (fun h7 => ?_) (fun h7 => ?_)
  · refine J.loc (lv' := [(0, _), (1, _)]) ⟨rfl, rfl, trivial⟩ ?_
    have a := dec_t h7
    refine j_aload_n (p2 := 14) dM_run_13 rfl rfl ?_
    refine j_getIk (p2 := 17) dM_run_14 rfl fa_M_195 ly_69 rfl (ki := 11) rfl ?_
    refine j_if_ne (p2 := 20) (tg := 23) dM_run_17 rfl (by decide) (by constructor <;> omega) (fun h17 => ?_) (fun h17 => ?_)
    · refine j_aload_n (p2 := 24) dM_run_23 rfl rfl ?_
      refine j_getIk (p2 := 27) dM_run_24 rfl fa_M_322 ly_69 rfl (ki := 12) rfl ?_
      refine j_iload_n (p2 := 28) dM_run_27 rfl rfl ?_
      refine j_iadd (p2 := 29) dM_run_28 rfl ?_
      refine j_sipush (v := 300) (p2 := 32) dM_run_29 rfl rfl ?_
      refine j_icmp_le (p2 := 35) (tg := 38) dM_run_32 rfl (by decide) (by constructor <;> omega) (by constructor <;> omega) (fun h32 => ?_) (fun h32 => ?_)
      · refine j_iconst (p2 := 39) dM_run_38 rfl ?_
        refine j_istore_n (p2 := 40) (lv' := [(0, _), (1, _), (2, _)]) dM_run_39 rfl (Nat.le_of_ble_eq_true rfl) ⟨rfl, rfl, rfl, trivial⟩ ?_
        refine J.loc (lv' := [(0, _), (1, _), (2, _)]) ⟨rfl, rfl, rfl, trivial⟩ ?_
        exact loop a h17 h32 S 0 (by omega) (fun s x y => absurd y (by omega))
      · refine j_bipush (v := (-104)) (p2 := 37) dM_run_35 rfl rfl ?_
        refine j_ireturn dM_run_37 rfl (by exact h3 a h17 (fun q => by omega))
    · refine j_bipush (v := (-103)) (p2 := 22) dM_run_20 rfl rfl ?_
      refine j_ireturn dM_run_22 rfl (by exact h2 a h17)
  · refine j_bipush (v := (-102)) (p2 := 12) dM_run_10 rfl rfl ?_
    refine j_ireturn dM_run_12 rfl (by exact h1 (of_decide_eq_false h7))
end REF31
