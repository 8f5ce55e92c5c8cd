/-! ===== the class's sumBits ===== -/
theorem m0_of {x : UInt64} (h1 : mg x 1024) (h2 : x ≠ 9223372036854775808) : FP.dneg x = 9223372036854775808 ↔ FP.dcmp x FP.dconst0 = some .eq := by
  have hlt : x.toNat < 2 ^ 64 := x.toNat_lt
  have hz : FP.dcmp x FP.dconst0 = some .eq ↔ x.toNat % 2 ^ 63 = 0 := ⟨fun h => (FP.Core.zero_bits2 x).mp (FP.Core.zero_iff.mp h), fun h => FP.Core.zero_iff.mpr ((FP.Core.zero_bits2 x).mpr h)⟩
  have hne : x.toNat ≠ 9223372036854775808 := fun q => h2 (UInt64.toNat_inj.mp q)
  rw [hz]
  constructor
  · intro h
    have e : (FP.dneg x).toNat = 9223372036854775808 := by rw [h]; rfl
    have := dneg_mod x
    omega
  · intro h
    have e := dneg_lo (z := x) (by omega)
    exact UInt64.toNat_inj.mp (by show (FP.dneg x).toNat = 9223372036854775808; omega)
section SUMB
variable {σ : Hp} {Q : Option PV → Hp → Prop}
theorem cTd_sumBits {fr : Int → Int} {r : Int → UInt64} {N : Nat} {m : Int} (hc : CtI σ fr N) (hfl : hI σ 21 3 = 0) (hm : 0 ≤ m ∧ m < N) (hr : ∀ k : Int, 0 ≤ k → k < N → hD σ 22 k = r k ∧ mg (r k) 1024) (hz : ∀ k : Int, 0 ≤ k → k < N → r k ≠ 9223372036854775808) (hQ : Q (some (vL (gsum arD fr (hI σ 10) r m 6).1.toInt64)) σ) : Sp mT_sumBits [vR 21, vI m] σ Q := by
  have hc0 := hc
  obtain ⟨c1, c2, c3, c4⟩ := hc
  have hg := gsum_mg (fr := fr) (tu := hI σ 10) (r := r) (m := m) (fun j hj h => (hr _ (by have := (c4 m j hm.1 hm.2 (by omega) (by omega)).2.1; omega) (c4 m j hm.1 hm.2 (by omega) (by omega)).2.1.2).2)
  have hgf := fun i hi => mg_fn (hg i hi) (by omega)
  have gi : ∀ i : Nat, i < 6 → ¬ fr (6 * m + (i : Int)) = -1 → FnD (gin arD fr (hI σ 10) r m i) := fun i hi h => by
    have := (c4 m i hm.1 hm.2 (by omega) (by omega)).2.1
    exact (gin_mg (hr _ (by omega) this.2).2).fin (by decide)
  -- once a part is not -0.0, the sum is not
  have keep : ∀ n i : Nat, i + n = 6 → (gsum arD fr (hI σ 10) r m i).2 = false → (gsum arD fr (hI σ 10) r m i).1 ≠ 9223372036854775808 → (gsum arD fr (hI σ 10) r m 6).1 ≠ 9223372036854775808 := by
    intro n
    induction n with
    | zero => intro i h1 h2 h3; rw [show (6 : Nat) = i by omega]; exact h3
    | succ n ih =>
      intro i h1 h2 h3
      have e : gsum arD fr (hI σ 10) r m (i + 1) = if fr (6 * m + (i : Int)) = -1 then gsum arD fr (hI σ 10) r m i else (if (gsum arD fr (hI σ 10) r m i).2 then gin arD fr (hI σ 10) r m i else Aadd arD (gsum arD fr (hI σ 10) r m i).1 (gin arD fr (hI σ 10) r m i), false) := rfl
      by_cases g : fr (6 * m + (i : Int)) = -1
      · rw [if_pos g] at e
        exact ih (i + 1) (by omega) (by rw [e]; exact h2) (by rw [e]; exact h3)
      · rw [if_neg g, h2] at e
        refine ih (i + 1) (by omega) (by rw [e]) (fun q => h3 ?_)
        rw [e] at q
        exact (sum_m0 (hgf i (by omega)) (gi i (by omega) g) q).1
  have fin : (gsum arD fr (hI σ 10) r m 6).1 ≠ 9223372036854775808 → J mT_sumBits 58 [(0, vR 21), (1, vI m)] [] σ Q := fun h => by
    have h6 := hg 6 (by omega)
    refine j_aload_n (p2 := 59) dT_sumBits_58 rfl rfl ?_
    refine j_iload_n (p2 := 60) dT_sumBits_59 rfl rfl ?_
    refine j_callV (m' := mT_inputSum) (As := [_]) (p2 := 63) dT_sumBits_60 rfl ml_T_122 ok_mT_inputSum im_mT_inputSum se_mT_inputSum rfl rfl (Nat.le_of_ble_eq_true rfl) ly_21 rfl (Nat.le_of_ble_eq_true rfl) ⟨(Nat.le_of_ble_eq_true rfl), (Nat.le_of_ble_eq_true rfl)⟩ ?_
    refine cTd_inputSum hc0 hfl hm hr ?_
    refine j_callS (m' := mN_bitsOf) (As := [_]) (p2 := 66) dT_sumBits_63 rfl ml_T_191 ok_mN_bitsOf sm_mN_bitsOf rfl rfl (Nat.le_of_ble_eq_true rfl) (Nat.le_of_ble_eq_true rfl) ⟨(Nat.le_of_ble_eq_true rfl), (Nat.le_of_ble_eq_true rfl)⟩ ?_
    refine cN_bitsOf (Nat.lt_of_lt_of_le h6 (by decide)) (fun q => h (UInt64.toNat_inj.mp q)) ?_
    refine j_lreturn dT_sumBits_66 rfl (by exact hQ)
  have loop : ∀ (n i : Nat), i ≤ 6 → 7 ≤ i + n → ((gsum arD fr (hI σ 10) r m i).2 = true → (gsum arD fr (hI σ 10) r m i).1 = FP.dconst0) → ((gsum arD fr (hI σ 10) r m i).2 = false → (gsum arD fr (hI σ 10) r m i).1 = 9223372036854775808) → J mT_sumBits 7 [(0, vR 21), (1, vI m), (2, vI (bI (!(gsum arD fr (hI σ 10) r m i).2))), (3, vI (m * 6 + i))] [] σ Q := by
    intro n
    induction n with
    | zero => intro i h1 h2; exact absurd h2 (by omega)
    | succ n ih =>
      intro i h1 h2 z1 z2
      have cb : i < 6 → hI σ 9 (m * 6 + i) = fr (6 * m + i) ∧ (-1 ≤ fr (6 * m + i) ∧ fr (6 * m + i) < N) := fun h => ⟨(c4 m i hm.1 hm.2 (by omega) (by omega)).1, (c4 m i hm.1 hm.2 (by omega) (by omega)).2.1⟩
      have b9 : i < 6 → -1 ≤ hI σ 9 (m * 6 + i) ∧ hI σ 9 (m * 6 + i) < N := fun h => by rw [(cb h).1]; exact (cb h).2
      have b10 : i < 6 → 0 ≤ hI σ 10 (m * 6 + i) ∧ hI σ 10 (m * 6 + i) ≤ 1 := fun h => by rw [Int.mul_comm m 6]; exact (c4 m i hm.1 hm.2 (by omega) (by omega)).2.2
      have e : gsum arD fr (hI σ 10) r m (i + 1) = if fr (6 * m + (i : Int)) = -1 then gsum arD fr (hI σ 10) r m i else (if (gsum arD fr (hI σ 10) r m i).2 then gin arD fr (hI σ 10) r m i else Aadd arD (gsum arD fr (hI σ 10) r m i).1 (gin arD fr (hI σ 10) r m i), false) := rfl
      have k0 : i < 6 → hI σ 9 (m * 6 + i) = -1 → J mT_sumBits 7 [(0, vR 21), (1, vI m), (2, vI (bI (!(gsum arD fr (hI σ 10) r m i).2))), (3, vI (m * 6 + i + 1))] [] σ Q := fun hi g => by
        rw [(cb hi).1] at g
        rw [if_pos g] at e
        have := ih (i + 1) (by omega) (by omega) (by rw [e]; exact z1) (by rw [e]; exact z2)
        rw [e, show m * 6 + ((i + 1 : Nat) : Int) = m * 6 + (i : Int) + 1 by omega] at this
        exact this
      have eg : i < 6 → ¬ hI σ 9 (m * 6 + i) = -1 → (gin arD fr (hI σ 10) r m i = 9223372036854775808 ↔ (¬ hI σ 10 (m * 6 + i) = 0 ∧ FP.dcmp (hD σ 22 (hI σ 9 (m * 6 + i))) FP.dconst0 = some .eq)) := fun hi g => by
        have b := cb hi
        rw [b.1] at g ⊢
        rw [(hr _ (by omega) b.2.2).1, Int.mul_comm m 6]
        have q1 := hz _ (by omega : 0 ≤ fr (6 * m + i)) b.2.2
        have q2 := m0_of (hr _ (by omega : 0 ≤ fr (6 * m + i)) b.2.2).2 q1
        unfold gin
        by_cases t : hI σ 10 (6 * m + i) = 0
        · rw [if_pos t]; exact ⟨fun q => absurd q q1, fun q => absurd t q.1⟩
        · rw [if_neg t]; exact ⟨fun q => ⟨t, q2.mp q⟩, fun q => q2.mpr q.2⟩
      have k1 : i < 6 → ¬ hI σ 9 (m * 6 + i) = -1 → (¬ hI σ 10 (m * 6 + i) = 0 ∧ FP.dcmp (hD σ 22 (hI σ 9 (m * 6 + i))) FP.dconst0 = some .eq) → J mT_sumBits 7 [(0, vR 21), (1, vI m), (2, vI 1), (3, vI (m * 6 + i + 1))] [] σ Q := fun hi g t => by
        have q := (eg hi g).mpr t
        rw [(cb hi).1] at g
        rw [if_neg g] at e
        have f2 : (gsum arD fr (hI σ 10) r m (i + 1)).2 = false := by rw [e]
        have := ih (i + 1) (by omega) (by omega) (fun w => by rw [f2] at w; cases w) (fun _ => by
          rw [e]
          show (if (gsum arD fr (hI σ 10) r m i).2 = true then gin arD fr (hI σ 10) r m i else Aadd arD (gsum arD fr (hI σ 10) r m i).1 (gin arD fr (hI σ 10) r m i)) = _
          by_cases w : (gsum arD fr (hI σ 10) r m i).2 = true
          · rw [if_pos w]; exact q
          · rw [if_neg w, q, z2 (by revert w; cases (gsum arD fr (hI σ 10) r m i).2 <;> decide)]
            show FP.dadd 9223372036854775808 9223372036854775808 = 9223372036854775808
            decide +kernel)
        rw [f2, show m * 6 + ((i + 1 : Nat) : Int) = m * 6 + (i : Int) + 1 by omega] at this
        exact this
      have k2 : i < 6 → ¬ hI σ 9 (m * 6 + i) = -1 → ¬ (¬ hI σ 10 (m * 6 + i) = 0 ∧ FP.dcmp (hD σ 22 (hI σ 9 (m * 6 + i))) FP.dconst0 = some .eq) → J mT_sumBits 58 [(0, vR 21), (1, vI m)] [] σ Q := fun hi g t => by
        have q : ¬ gin arD fr (hI σ 10) r m i = 9223372036854775808 := fun w => t ((eg hi g).mp w)
        rw [(cb hi).1] at g
        have gf := gi i hi g
        rw [if_neg g] at e
        refine fin (keep (5 - i) (i + 1) (by omega) (by rw [e]) ?_)
        rw [e]
        show (if (gsum arD fr (hI σ 10) r m i).2 = true then gin arD fr (hI σ 10) r m i else Aadd arD (gsum arD fr (hI σ 10) r m i).1 (gin arD fr (hI σ 10) r m i)) ≠ _
        by_cases w : (gsum arD fr (hI σ 10) r m i).2 = true
        · rw [if_pos w]; exact q
        · rw [if_neg w]
          exact fun p => q (sum_m0 (hgf i (by omega)) gf p).2
      have k3 : i = 6 → J mT_sumBits 75 [(2, vI (bI (!(gsum arD fr (hI σ 10) r m i).2)))] [] σ Q := fun he => by
        subst he
        cases w : (gsum arD fr (hI σ 10) r m 6).2 with
        | true =>
          rw [z1 w] at hQ
          refine j_iload_n (p2 := 76) dT_sumBits_75 rfl rfl ?_
          refine j_if_eq (p2 := 79) (tg := 85) dT_sumBits_76 rfl (by decide) (by constructor <;> decide) (fun h76 => ?_) (fun h76 => ?_)
          · refine j_lconst (v := 0) (p2 := 86) dT_sumBits_85 rfl rfl ?_
            refine j_lreturn dT_sumBits_86 rfl (by first | exact hQ | exact absurd h76 (by decide))
          · refine j_ldc2 (p2 := 82) dT_sumBits_79 rfl cw_T_195 ?_
            refine j_goto (p2 := 86) dT_sumBits_82 (by decide) ?_
            refine j_lreturn dT_sumBits_86 rfl (by first | exact hQ | exact absurd h76 (by decide))
        | false =>
          rw [z2 w] at hQ
          refine j_iload_n (p2 := 76) dT_sumBits_75 rfl rfl ?_
          refine j_if_eq (p2 := 79) (tg := 85) dT_sumBits_76 rfl (by decide) (by constructor <;> decide) (fun h76 => ?_) (fun h76 => ?_)
          · refine j_lconst (v := 0) (p2 := 86) dT_sumBits_85 rfl rfl ?_
            refine j_lreturn dT_sumBits_86 rfl (by first | exact hQ | exact absurd h76 (by decide))
          · refine j_ldc2 (p2 := 82) dT_sumBits_79 rfl cw_T_195 ?_
            refine j_goto (p2 := 86) dT_sumBits_82 (by decide) ?_
            refine j_lreturn dT_sumBits_86 rfl (by first | exact hQ | exact absurd h76 (by decide))
      refine j_iload_n (p2 := 8) dT_sumBits_7 rfl rfl ?_
      refine j_iload_n (p2 := 9) dT_sumBits_8 rfl rfl ?_
      refine j_iconst (p2 := 10) dT_sumBits_9 rfl ?_
      refine j_iadd (p2 := 11) dT_sumBits_10 rfl ?_
      refine j_bipush (v := 6) (p2 := 13) dT_sumBits_11 rfl rfl ?_
      refine j_imul (p2 := 14) dT_sumBits_13 rfl ?_
      refine j_icmp_ge (p2 := 17) (tg := 75) dT_sumBits_14 rfl (by decide) (by constructor <;> omega) (by constructor <;> omega) (fun h14 => ?_) (fun h14 => ?_)
      · refine J.loc (lv' := [(2, _)]) ⟨rfl, trivial⟩ ?_
        exact k3 (by omega)
      · refine j_aload_n (p2 := 18) dT_sumBits_17 rfl rfl ?_
        refine j_getR (p2 := 21) dT_sumBits_18 rfl fa_T_49 ly_21 rfl ?_
        refine j_getR (p2 := 24) dT_sumBits_21 rfl fa_T_184 ly_3 rfl ?_
        refine j_iload_n (p2 := 25) dT_sumBits_24 rfl rfl ?_
        refine j_iald (p2 := 26) dT_sumBits_25 rfl ly_9 (by decide) (by omega) (by omega) ?_
        refine j_istore (p2 := 28) (lv' := [(0, _), (1, _), (2, _), (3, _), (4, _)]) dT_sumBits_26 rfl (Nat.le_of_ble_eq_true rfl) ⟨rfl, rfl, rfl, rfl, rfl, trivial⟩ ?_
        refine j_iload (p2 := 30) dT_sumBits_28 rfl rfl ?_
        refine j_iconst (p2 := 31) dT_sumBits_30 rfl ?_
        refine j_icmp_eq (p2 := 34) (tg := 69) dT_sumBits_31 rfl (by decide) (by have := b9 (by omega); constructor <;> omega) (by constructor <;> omega) (fun h31 => ?_) (fun h31 => ?_)
        · refine j_iinc (p2 := 72) (lv' := [(0, _), (1, _), (2, _), (3, _)]) dT_sumBits_69 rfl (Nat.le_of_ble_eq_true rfl) rfl ⟨rfl, rfl, rfl, rfl, trivial⟩ ?_
          refine j_goto (p2 := 7) dT_sumBits_72 (by decide) ?_
          refine J.loc (lv' := [(0, _), (1, _), (2, _), (3, _)]) ⟨rfl, rfl, rfl, rfl, trivial⟩ ?_
          first
            | (have g : hI σ 9 (m * 6 + i) = -1 := h31
               exact k0 (by omega) g)
            | (have g : ¬ hI σ 9 (m * 6 + i) = -1 := h31
               exact k1 (by omega) g ⟨h43, h54⟩)
        · refine j_aload_n (p2 := 35) dT_sumBits_34 rfl rfl ?_
          refine j_getR (p2 := 38) dT_sumBits_35 rfl fa_T_49 ly_21 rfl ?_
          refine j_getR (p2 := 41) dT_sumBits_38 rfl fa_T_187 ly_3 rfl ?_
          refine j_iload_n (p2 := 42) dT_sumBits_41 rfl rfl ?_
          refine j_zald (p2 := 43) dT_sumBits_42 rfl ly_10 (by decide) (by omega) (by omega) ?_
          refine j_if_eq (p2 := 46) (tg := 58) dT_sumBits_43 rfl (by decide) (by have := b10 (by omega); constructor <;> omega) (fun h43 => ?_) (fun h43 => ?_)
          · refine J.loc (lv' := [(0, _), (1, _)]) ⟨rfl, rfl, trivial⟩ ?_
            first
              | (have g : hI σ 10 (m * 6 + i) = 0 := h43
                 exact k2 (by omega) h31 (fun q => q.1 g))
              | (have g : ¬ FP.dcmp (hD σ 22 (hI σ 9 (m * 6 + i))) FP.dconst0 = some .eq := h54
                 exact k2 (by omega) h31 (fun q => g q.2))
          · refine j_aload_n (p2 := 47) dT_sumBits_46 rfl rfl ?_
            refine j_getR (p2 := 50) dT_sumBits_47 rfl fa_T_9 ly_21 rfl ?_
            refine j_iload (p2 := 52) dT_sumBits_50 rfl rfl ?_
            refine j_dald (p2 := 53) dT_sumBits_52 rfl ly_22 (by decide) (by have := b9 (by omega); omega) (by have := b9 (by omega); omega) ?_
            refine j_dconst0 (p2 := 54) dT_sumBits_53 rfl ?_
            refine j_dcmp_l_eq (p1 := 55) (p2 := 58) (tg := 67) dT_sumBits_54 rfl dT_sumBits_55 rfl (by decide) (fun h54 => ?_) (fun h54 => ?_)
            · refine j_iconst (p2 := 68) dT_sumBits_67 rfl ?_
              refine j_istore_n (p2 := 69) (lv' := [(0, _), (1, _), (2, _), (3, _)]) dT_sumBits_68 rfl (Nat.le_of_ble_eq_true rfl) ⟨rfl, rfl, rfl, rfl, trivial⟩ ?_
              refine j_iinc (p2 := 72) (lv' := [(0, _), (1, _), (2, _), (3, _)]) dT_sumBits_69 rfl (Nat.le_of_ble_eq_true rfl) rfl ⟨rfl, rfl, rfl, rfl, trivial⟩ ?_
              refine j_goto (p2 := 7) dT_sumBits_72 (by decide) ?_
              refine J.loc (lv' := [(0, _), (1, _), (2, _), (3, _)]) ⟨rfl, rfl, rfl, rfl, trivial⟩ ?_
              first
                | (have g : hI σ 9 (m * 6 + i) = -1 := h31
                   exact k0 (by omega) g)
                | (have g : ¬ hI σ 9 (m * 6 + i) = -1 := h31
                   exact k1 (by omega) g ⟨h43, h54⟩)
            · refine J.loc (lv' := [(0, _), (1, _)]) ⟨rfl, rfl, trivial⟩ ?_
              first
                | (have g : hI σ 10 (m * 6 + i) = 0 := h43
                   exact k2 (by omega) h31 (fun q => q.1 g))
                | (have g : ¬ FP.dcmp (hD σ 22 (hI σ 9 (m * 6 + i))) FP.dconst0 = some .eq := h54
                   exact k2 (by omega) h31 (fun q => g q.2))
  refine j_iconst (p2 := 1) dT_sumBits_0 rfl ?_
  refine j_istore_n (p2 := 2) (lv' := [(0, _), (1, _), (2, _)]) dT_sumBits_1 rfl (Nat.le_of_ble_eq_true rfl) ⟨rfl, rfl, rfl, trivial⟩ ?_
  refine j_iload_n (p2 := 3) dT_sumBits_2 rfl rfl ?_
  refine j_bipush (v := 6) (p2 := 5) dT_sumBits_3 rfl rfl ?_
  refine j_imul (p2 := 6) dT_sumBits_5 rfl ?_
  refine j_istore_n (p2 := 7) (lv' := [(0, _), (1, _), (2, _), (3, _)]) dT_sumBits_6 rfl (Nat.le_of_ble_eq_true rfl) ⟨rfl, rfl, rfl, rfl, trivial⟩ ?_
  refine J.loc (lv' := [(0, _), (1, _), (2, _), (3, _)]) ⟨rfl, rfl, rfl, rfl, trivial⟩ ?_
  have := loop 7 0 (by omega) (by omega) (fun _ => rfl) (fun q => by cases q)
  rw [show m * 6 + ((0 : Nat) : Int) = m * 6 by omega] at this
  exact this
end SUMB
