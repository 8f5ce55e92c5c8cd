/-! ===== the class's patch: add, inputs, cords; lamps ===== -/
theorem i_sl : ∀ k : Nat, k < 31 → jishl 1 (k : Int) = ((2 ^ k : Nat) : Int) := by
  intro k hk
  unfold jishl
  rw [iw_nat]
  revert k; decide +kernel
/-- the first n of these bits, as a mask -/
def tdN (b : Nat → Bool) : Nat → Nat
  | 0 => 0
  | i + 1 => if b i = true then tdN b i + 2 ^ i else tdN b i
theorem tdN_lt (b : Nat → Bool) : ∀ i : Nat, tdN b i < 2 ^ i
  | 0 => Nat.one_pos
  | i + 1 => by
    have := tdN_lt b i
    show (if b i = true then tdN b i + 2 ^ i else tdN b i) < 2 ^ (i + 1)
    rw [Nat.pow_succ]
    split <;> omega
theorem or_2p {a k : Nat} (h : a < 2 ^ k) : a ||| 2 ^ k = a + 2 ^ k := by
  have h1 : 1 * 2 ^ k ||| a = 1 * 2 ^ k + a := by rw [← Nat.shiftLeft_eq, Nat.shiftLeft_add_eq_or_of_lt h]
  rw [Nat.one_mul] at h1
  rw [Nat.or_comm, h1, Nat.add_comm]
theorem tdN_or (b : Nat → Bool) {i : Nat} (hi : i < 30) : jior (tdN b i : Int) (jishl 1 (i : Int)) = ((tdN b i + 2 ^ i : Nat) : Int) := by
  have h := tdN_lt b i
  have h2 : 2 ^ i ≤ 2 ^ 29 := Nat.pow_le_pow_right (by decide) (by omega)
  rw [i_sl i (by omega), i_or (by omega) (by omega), or_2p h]
/-- a mask has the needed bits -/
def ndB (k : Nat) (t : Nat) : Bool := if NEED k = -1 then decide (¬ t = 0) else decide (((t &&& (NEED k).toNat : Nat) : Int) = NEED k)
def inB (k : Nat) (b0 b1 b2 b3 b4 b5 : Bool) : Bool :=
  if k = 0 ∨ k = 2 then b0 || b1 || b2 || b3 || b4 || b5
  else if k = 1 ∨ k = 6 ∨ k = 7 ∨ k = 10 ∨ k = 11 ∨ k = 12 then b0
  else if k = 9 then b0 && b1 && b2
  else if k = 13 then true else b0 && b1
def tdM (b0 b1 b2 b3 b4 b5 : Bool) : Nat := tdN (fun i => match i with | 0 => b0 | 1 => b1 | 2 => b2 | 3 => b3 | 4 => b4 | _ => b5) 6
theorem nd_in : ∀ k : Fin 14, ∀ b0 b1 b2 b3 b4 b5 : Bool, ndB k (tdM b0 b1 b2 b3 b4 b5) = inB k b0 b1 b2 b3 b4 b5 := by decide +kernel
theorem tdN_6 (b : Nat → Bool) : tdN b 6 = tdM (b 0) (b 1) (b 2) (b 3) (b 4) (b 5) := rfl
theorem hIn_B (kd fr : Int → Int) {m : Int} {k : Nat} (hk : kd m = k) : hIn kd fr m = inB k (cdd fr m 0) (cdd fr m 1) (cdd fr m 2) (cdd fr m 3) (cdd fr m 4) (cdd fr m 5) := by
  unfold hIn inB
  rw [hk]
  have e : anyI fr m 6 = (cdd fr m 0 || cdd fr m 1 || cdd fr m 2 || cdd fr m 3 || cdd fr m 4 || cdd fr m 5) := by
    show (((((((false || cdd fr m 0) || cdd fr m 1) || cdd fr m 2) || cdd fr m 3) || cdd fr m 4) || cdd fr m 5)) = _
    rw [Bool.false_or]
  rw [e]
  by_cases a : k = 0 ∨ k = 2
  · rw [if_pos (by omega), if_pos a]
  · rw [if_neg (by omega), if_neg a]
    by_cases b : k = 1 ∨ k = 6 ∨ k = 7 ∨ k = 10 ∨ k = 11 ∨ k = 12
    · rw [if_pos (by omega), if_pos b]
    · rw [if_neg (by omega), if_neg b]
      by_cases c : k = 9
      · rw [if_pos (by omega), if_pos c]
      · rw [if_neg (by omega), if_neg c]
        by_cases d : k = 13
        · rw [if_pos (by omega), if_pos d]
        · rw [if_neg (by omega), if_neg d]
section PAT2
variable {σ : Hp} {Q : Option PV → Hp → Prop}
theorem cP_hasNeededInputs {fr : Int → Int} {N : Nat} {m : Int} (hc : CtI σ fr N) (hm : 0 ≤ m ∧ m < N) (hQ : Q (some (vI (bI (hIn (hI σ 4) fr m)))) σ) : Sp mP_hasNeededInputs [vR 3, vI m] σ Q := by
  have hk := hc.2.2.1 m hm.1 hm.2
  have hN2 := hc.2.1
  obtain ⟨k, hkk⟩ : ∃ k : Nat, hI σ 4 m = k := ⟨(hI σ 4 m).toNat, by omega⟩
  obtain ⟨B, hB⟩ : ∃ B : Nat → Bool, B = fun (i : Nat) => decide (¬ fr (6 * m + (i : Int)) = -1) := ⟨_, rfl⟩
  have hin : hIn (hI σ 4) fr m = ndB k (tdN B 6) := by
    rw [hIn_B (hI σ 4) fr hkk, tdN_6, ← nd_in ⟨k, by omega⟩, hB]
    rfl
  rw [hin] at hQ
  have t6 : tdN B 6 < 64 := tdN_lt B 6
  have at37 : J mP_hasNeededInputs 37 [(0, vR 3), (1, vI m), (2, vI (tdN B 6))] [] σ Q := by
    generalize tdN B 6 = T at *
    unfold ndB at hQ
    have hnd : (hI σ 4 m).toNat = k := by omega
    have hnr : -1 ≤ NEED k ∧ NEED k ≤ 7 := by
      have : k < 14 := by omega
      clear hQ hin hkk hnd
      revert k; decide +kernel
    have hand : ¬ NEED k = -1 → jiand (T : Int) (NEED k) = ((T &&& (NEED k).toNat : Nat) : Int) := fun z => by
      have := i_and (a := T) (b := (NEED k).toNat) (by omega) (by omega)
      rw [show (((NEED k).toNat : Nat) : Int) = NEED k by omega] at this
      exact this
    have hal : T &&& (NEED k).toNat < 2 ^ 6 := Nat.and_lt_two_pow _ (by omega)
    refine j_needed (own := "TwinPanel$Patch") rfl (p2 := 40) dP_hasNeededInputs_37 rfl fs_P_83 ?_
    refine j_aload_n (p2 := 41) dP_hasNeededInputs_40 rfl rfl ?_
    refine j_getR (p2 := 44) dP_hasNeededInputs_41 rfl fa_P_22 ly_3 rfl ?_
    refine j_iload_n (p2 := 45) dP_hasNeededInputs_44 rfl rfl ?_
    refine j_iald (p2 := 46) dP_hasNeededInputs_45 rfl ly_4 (by decide) (by omega) (by omega) ?_
    refine j_nald (p2 := 47) dP_hasNeededInputs_46 rfl (by omega) (by omega) ?_
    refine j_istore_n (p2 := 48) (lv' := [(2, _), (3, _)]) dP_hasNeededInputs_47 rfl (Nat.le_of_ble_eq_true rfl) ⟨rfl, rfl, trivial⟩ ?_
    refine J.loc (lv' := [(2, _), (3, _)]) ⟨rfl, rfl, trivial⟩ ?_
    rw [hnd]
    refine j_iload_n (p2 := 49) dP_hasNeededInputs_48 rfl rfl ?_
    refine j_iconst (p2 := 50) dP_hasNeededInputs_49 rfl ?_
    refine j_icmp_ne (p2 := 53) (tg := 65) dP_hasNeededInputs_50 rfl (by decide) (by constructor <;> omega) (by constructor <;> omega) (fun h50 => ?_) (fun h50 => ?_)
    · refine j_iload_n (p2 := 66) dP_hasNeededInputs_65 rfl rfl ?_
      refine j_iload_n (p2 := 67) dP_hasNeededInputs_66 rfl rfl ?_
      refine j_iand (p2 := 68) dP_hasNeededInputs_67 rfl ?_
      refine j_iload_n (p2 := 69) dP_hasNeededInputs_68 rfl rfl ?_
      refine j_icmp_ne (p2 := 72) (tg := 76) dP_hasNeededInputs_69 rfl (by decide) (by rw [hand h50]; constructor <;> omega) (by constructor <;> omega) (fun h69 => ?_) (fun h69 => ?_)
      · refine j_iconst (p2 := 77) dP_hasNeededInputs_76 rfl ?_
        refine j_zreturn dP_hasNeededInputs_77 rfl (by first | exact Or.inl rfl | exact Or.inr rfl | exact bI_or _ | omega) (by first | (rw [if_pos h50] at hQ; first | exact Q_b1 hQ (by omega) | exact Q_b0 hQ (by omega)) | (rw [if_neg h50] at hQ; rw [hand h50] at h69; first | exact Q_b1 hQ h69 | exact Q_b0 hQ h69))
      · refine j_iconst (p2 := 73) dP_hasNeededInputs_72 rfl ?_
        refine j_goto (p2 := 77) dP_hasNeededInputs_73 (by decide) ?_
        refine j_zreturn dP_hasNeededInputs_77 rfl (by first | exact Or.inl rfl | exact Or.inr rfl | exact bI_or _ | omega) (by first | (rw [if_pos h50] at hQ; first | exact Q_b1 hQ (by omega) | exact Q_b0 hQ (by omega)) | (rw [if_neg h50] at hQ; rw [hand h50] at h69; first | exact Q_b1 hQ h69 | exact Q_b0 hQ h69))
    · refine j_iload_n (p2 := 54) dP_hasNeededInputs_53 rfl rfl ?_
      refine j_if_eq (p2 := 57) (tg := 61) dP_hasNeededInputs_54 rfl (by decide) (by constructor <;> omega) (fun h54 => ?_) (fun h54 => ?_)
      · refine j_iconst (p2 := 62) dP_hasNeededInputs_61 rfl ?_
        refine j_goto (p2 := 77) dP_hasNeededInputs_62 (by decide) ?_
        refine j_zreturn dP_hasNeededInputs_77 rfl (by first | exact Or.inl rfl | exact Or.inr rfl | exact bI_or _ | omega) (by first | (rw [if_pos h50] at hQ; first | exact Q_b1 hQ (by omega) | exact Q_b0 hQ (by omega)) | (rw [if_neg h50] at hQ; rw [hand h50] at h69; first | exact Q_b1 hQ h69 | exact Q_b0 hQ h69))
      · refine j_iconst (p2 := 58) dP_hasNeededInputs_57 rfl ?_
        refine j_goto (p2 := 77) dP_hasNeededInputs_58 (by decide) ?_
        refine j_zreturn dP_hasNeededInputs_77 rfl (by first | exact Or.inl rfl | exact Or.inr rfl | exact bI_or _ | omega) (by first | (rw [if_pos h50] at hQ; first | exact Q_b1 hQ (by omega) | exact Q_b0 hQ (by omega)) | (rw [if_neg h50] at hQ; rw [hand h50] at h69; first | exact Q_b1 hQ h69 | exact Q_b0 hQ h69))
  have loop : ∀ (n i : Nat), i ≤ 6 → 7 ≤ i + n → J mP_hasNeededInputs 4 [(0, vR 3), (1, vI m), (2, vI (tdN B i)), (3, vI i)] [] σ Q := by
    intro n
    induction n with
    | zero => intro i h1 h2; exact absurd h2 (by omega)
    | succ n ih =>
      intro i h1 h2
      have cb : i < 6 → hI σ 9 (m * 6 + i) = fr (6 * m + i) ∧ (-1 ≤ fr (6 * m + i) ∧ fr (6 * m + i) < N) := fun h => ⟨(hc.2.2.2 m i hm.1 hm.2 (by omega) (by omega)).1, (hc.2.2.2 m i hm.1 hm.2 (by omega) (by omega)).2.1⟩
      have b9 : i < 6 → -1 ≤ hI σ 9 (m * 6 + i) ∧ hI σ 9 (m * 6 + i) < N := fun h => by rw [(cb h).1]; exact (cb h).2
      have k0 : i < 6 → hI σ 9 (m * 6 + i) = -1 → J mP_hasNeededInputs 4 [(0, vR 3), (1, vI m), (2, vI (tdN B i)), (3, vI (i + 1))] [] σ Q := fun hi g => by
        have := ih (i + 1) (by omega) (by omega)
        have e : tdN B (i + 1) = tdN B i := if_neg (by rw [hB]; show ¬ decide (¬ fr (6 * m + (i : Int)) = -1) = true; rw [decide_eq_false (fun q => q (by rw [← (cb hi).1]; exact g))]; decide)
        rw [e] at this; exact this
      have k1 : i < 6 → ¬ hI σ 9 (m * 6 + i) = -1 → J mP_hasNeededInputs 4 [(0, vR 3), (1, vI m), (2, vI (jior (tdN B i : Int) (jishl 1 (i : Int)))), (3, vI (i + 1))] [] σ Q := fun hi g => by
        have := ih (i + 1) (by omega) (by omega)
        have e : tdN B (i + 1) = tdN B i + 2 ^ i := if_pos (by rw [hB]; exact decide_eq_true (by rw [← (cb hi).1]; exact g))
        rw [tdN_or B (by omega)]
        rw [e] at this; exact this
      refine j_iload_n (p2 := 5) dP_hasNeededInputs_4 rfl rfl ?_
      refine j_bipush (v := 6) (p2 := 7) dP_hasNeededInputs_5 rfl rfl ?_
      refine j_icmp_ge (p2 := 10) (tg := 37) dP_hasNeededInputs_7 rfl (by decide) (by constructor <;> omega) (by constructor <;> omega) (fun h7 => ?_) (fun h7 => ?_)
      · refine J.loc (lv' := [(0, _), (1, _), (2, _)]) ⟨rfl, rfl, rfl, trivial⟩ ?_
        have e : i = 6 := by omega
        subst e
        exact at37
      · refine j_aload_n (p2 := 11) dP_hasNeededInputs_10 rfl rfl ?_
        refine j_getR (p2 := 14) dP_hasNeededInputs_11 rfl fa_P_40 ly_3 rfl ?_
        refine j_iload_n (p2 := 15) dP_hasNeededInputs_14 rfl rfl ?_
        refine j_bipush (v := 6) (p2 := 17) dP_hasNeededInputs_15 rfl rfl ?_
        refine j_imul (p2 := 18) dP_hasNeededInputs_17 rfl ?_
        refine j_iload_n (p2 := 19) dP_hasNeededInputs_18 rfl rfl ?_
        refine j_iadd (p2 := 20) dP_hasNeededInputs_19 rfl ?_
        refine j_iald (p2 := 21) dP_hasNeededInputs_20 rfl ly_9 (by decide) (by omega) (by omega) ?_
        refine j_iconst (p2 := 22) dP_hasNeededInputs_21 rfl ?_
        refine j_icmp_eq (p2 := 25) (tg := 31) dP_hasNeededInputs_22 rfl (by decide) (by have := b9 (by omega); constructor <;> omega) (by constructor <;> omega) (fun h22 => ?_) (fun h22 => ?_)
        · refine j_iinc (p2 := 34) (lv' := [(0, _), (1, _), (2, _), (3, _)]) dP_hasNeededInputs_31 rfl (Nat.le_of_ble_eq_true rfl) rfl ⟨rfl, rfl, rfl, rfl, trivial⟩ ?_
          refine j_goto (p2 := 4) dP_hasNeededInputs_34 (by decide) ?_
          refine J.loc (lv' := [(0, _), (1, _), (2, _), (3, _)]) ⟨rfl, rfl, rfl, rfl, trivial⟩ ?_
          first
            | (have g : hI σ 9 (m * 6 + i) = -1 := h22
               exact k0 (by omega) g)
            | (have g : ¬ hI σ 9 (m * 6 + i) = -1 := h22
               exact k1 (by omega) g)
        · refine j_iload_n (p2 := 26) dP_hasNeededInputs_25 rfl rfl ?_
          refine j_iconst (p2 := 27) dP_hasNeededInputs_26 rfl ?_
          refine j_iload_n (p2 := 28) dP_hasNeededInputs_27 rfl rfl ?_
          refine j_ishl (p2 := 29) dP_hasNeededInputs_28 rfl ?_
          refine j_ior (p2 := 30) dP_hasNeededInputs_29 rfl ?_
          refine j_istore_n (p2 := 31) (lv' := [(0, _), (1, _), (2, _), (3, _)]) dP_hasNeededInputs_30 rfl (Nat.le_of_ble_eq_true rfl) ⟨rfl, rfl, rfl, rfl, trivial⟩ ?_
          refine j_iinc (p2 := 34) (lv' := [(0, _), (1, _), (2, _), (3, _)]) dP_hasNeededInputs_31 rfl (Nat.le_of_ble_eq_true rfl) rfl ⟨rfl, rfl, rfl, rfl, trivial⟩ ?_
          refine j_goto (p2 := 4) dP_hasNeededInputs_34 (by decide) ?_
          refine J.loc (lv' := [(0, _), (1, _), (2, _), (3, _)]) ⟨rfl, rfl, rfl, rfl, trivial⟩ ?_
          first
            | (have g : hI σ 9 (m * 6 + i) = -1 := h22
               exact k0 (by omega) g)
            | (have g : ¬ hI σ 9 (m * 6 + i) = -1 := h22
               exact k1 (by omega) g)
  refine j_iconst (p2 := 1) dP_hasNeededInputs_0 rfl ?_
  refine j_istore_n (p2 := 2) (lv' := [(0, _), (1, _), (2, _)]) dP_hasNeededInputs_1 rfl (Nat.le_of_ble_eq_true rfl) ⟨rfl, rfl, rfl, trivial⟩ ?_
  refine j_iconst (p2 := 3) dP_hasNeededInputs_2 rfl ?_
  refine j_istore_n (p2 := 4) (lv' := [(0, _), (1, _), (2, _), (3, _)]) dP_hasNeededInputs_3 rfl (Nat.le_of_ble_eq_true rfl) ⟨rfl, rfl, rfl, rfl, trivial⟩ ?_
  refine J.loc (lv' := [(0, _), (1, _), (2, _), (3, _)]) ⟨rfl, rfl, rfl, rfl, trivial⟩ ?_
  exact loop 7 0 (by omega) (by omega)
/-- how many of the first n are not -1 -/
def ctN (f : Int → Int) : Nat → Int
  | 0 => 0
  | i + 1 => if f i = -1 then ctN f i else ctN f i + 1
theorem ctN_b (f : Int → Int) : ∀ n : Nat, 0 ≤ ctN f n ∧ ctN f n ≤ n
  | 0 => by show (0 : Int) ≤ 0 ∧ (0 : Int) ≤ 0; decide
  | n + 1 => by
    have := ctN_b f n
    show 0 ≤ (if f n = -1 then ctN f n else ctN f n + 1) ∧ (if f n = -1 then ctN f n else ctN f n + 1) ≤ ((n + 1 : Nat) : Int)
    split <;> omega
theorem cP_cords {N : Nat} (hN : hI σ 3 0 = N ∧ N ≤ 20) (hf : ∀ k : Int, 0 ≤ k → k < 6 * N → inR (hI σ 9 k)) (hQ : Q (some (vI (ctN (hI σ 9) (6 * N)))) σ) : Sp mP_cords [vR 3] σ Q := by
  obtain ⟨hN, hN2⟩ := hN
  have loop : ∀ (n i : Nat), i ≤ 6 * N → 6 * N + 1 ≤ i + n → J mP_cords 4 [(0, vR 3), (1, vI (ctN (hI σ 9) i)), (2, vI i)] [] σ Q := by
    intro n
    induction n with
    | zero => intro i h1 h2; exact absurd h2 (by omega)
    | succ n ih =>
      intro i h1 h2
      have hb := ctN_b (hI σ 9) i
      have hfi : i < 6 * N → inR (hI σ 9 i) := fun h => hf i (by omega) (by omega)
      have ih2 : i < 6 * N → ∀ x, (if hI σ 9 i = -1 then ctN (hI σ 9) i else ctN (hI σ 9) i + 1) = x → J mP_cords 4 [(0, vR 3), (1, vI x), (2, vI (i + 1))] [] σ Q := fun h x hx => by
        rw [← hx]; exact ih (i + 1) (by omega) (by omega)
      refine j_iload_n (p2 := 5) dP_cords_4 rfl rfl ?_
      refine j_aload_n (p2 := 6) dP_cords_5 rfl rfl ?_
      refine j_getIk (p2 := 9) dP_cords_6 rfl fa_P_72 ly_3 rfl (ki := 0) rfl ?_
      refine j_bipush (v := 6) (p2 := 11) dP_cords_9 rfl rfl ?_
      refine j_imul (p2 := 12) dP_cords_11 rfl ?_
      refine j_icmp_ge (p2 := 15) (tg := 34) dP_cords_12 rfl (by decide) (by constructor <;> omega) (by constructor <;> omega) (fun h12 => ?_) (fun h12 => ?_)
      · refine j_iload_n (p2 := 35) dP_cords_34 rfl rfl ?_
        refine j_ireturn dP_cords_35 rfl (by have e : i = 6 * N := (by omega); subst e; exact hQ)
      · refine j_aload_n (p2 := 16) dP_cords_15 rfl rfl ?_
        refine j_getR (p2 := 19) dP_cords_16 rfl fa_P_40 ly_3 rfl ?_
        refine j_iload_n (p2 := 20) dP_cords_19 rfl rfl ?_
        refine j_iald (p2 := 21) dP_cords_20 rfl ly_9 (by decide) (by omega) (by omega) ?_
        refine j_iconst (p2 := 22) dP_cords_21 rfl ?_
        refine j_icmp_eq (p2 := 25) (tg := 28) dP_cords_22 rfl (by decide) (by exact hfi (by omega)) (by constructor <;> omega) (fun h22 => ?_) (fun h22 => ?_)
        · refine j_iinc (p2 := 31) (lv' := [(0, _), (1, _), (2, _)]) dP_cords_28 rfl (Nat.le_of_ble_eq_true rfl) rfl ⟨rfl, rfl, rfl, trivial⟩ ?_
          refine j_goto (p2 := 4) dP_cords_31 (by decide) ?_
          refine J.loc (lv' := [(0, _), (1, _), (2, _)]) ⟨rfl, rfl, rfl, trivial⟩ ?_
          first
            | exact ih2 (by omega) _ (if_pos h22)
            | exact ih2 (by omega) _ (if_neg h22)
        · refine j_iinc (p2 := 28) (lv' := [(0, _), (1, _), (2, _)]) dP_cords_25 rfl (Nat.le_of_ble_eq_true rfl) rfl ⟨rfl, rfl, rfl, trivial⟩ ?_
          refine j_iinc (p2 := 31) (lv' := [(0, _), (1, _), (2, _)]) dP_cords_28 rfl (Nat.le_of_ble_eq_true rfl) rfl ⟨rfl, rfl, rfl, trivial⟩ ?_
          refine j_goto (p2 := 4) dP_cords_31 (by decide) ?_
          refine J.loc (lv' := [(0, _), (1, _), (2, _)]) ⟨rfl, rfl, rfl, trivial⟩ ?_
          first
            | exact ih2 (by omega) _ (if_pos h22)
            | exact ih2 (by omega) _ (if_neg h22)
  refine j_iconst (p2 := 1) dP_cords_0 rfl ?_
  refine j_istore_n (p2 := 2) (lv' := [(0, _), (1, _)]) dP_cords_1 rfl (Nat.le_of_ble_eq_true rfl) ⟨rfl, rfl, trivial⟩ ?_
  refine j_iconst (p2 := 3) dP_cords_2 rfl ?_
  refine j_istore_n (p2 := 4) (lv' := [(0, _), (1, _), (2, _)]) dP_cords_3 rfl (Nat.le_of_ble_eq_true rfl) ⟨rfl, rfl, rfl, trivial⟩ ?_
  refine J.loc (lv' := [(0, _), (1, _), (2, _)]) ⟨rfl, rfl, rfl, trivial⟩ ?_
  exact loop (6 * N + 1) 0 (by omega) (by omega)
theorem cL_lit {N : Nat} (hN2 : N ≤ 20) (hf : ∀ k : Int, 0 ≤ k → k < N → inR (hI σ 20 k)) (hQ : Q (some (vI (ctN (hI σ 20) N))) σ) : Sp mL_lit [vR 19, vI N] σ Q := by
  have loop : ∀ (n i : Nat), i ≤ N → N + 1 ≤ i + n → J mL_lit 4 [(0, vR 19), (1, vI N), (2, vI (ctN (hI σ 20) i)), (3, vI i)] [] σ Q := by
    intro n
    induction n with
    | zero => intro i h1 h2; exact absurd h2 (by omega)
    | succ n ih =>
      intro i h1 h2
      have hb := ctN_b (hI σ 20) i
      have hfi : i < N → inR (hI σ 20 i) := fun h => hf i (by omega) (by omega)
      have ih2 : i < N → ∀ x, (if hI σ 20 i = -1 then ctN (hI σ 20) i else ctN (hI σ 20) i + 1) = x → J mL_lit 4 [(0, vR 19), (1, vI N), (2, vI x), (3, vI (i + 1))] [] σ Q := fun h x hx => by
        rw [← hx]; exact ih (i + 1) (by omega) (by omega)
      refine j_iload_n (p2 := 5) dL_lit_4 rfl rfl ?_
      refine j_iload_n (p2 := 6) dL_lit_5 rfl rfl ?_
      refine j_icmp_ge (p2 := 9) (tg := 28) dL_lit_6 rfl (by decide) (by constructor <;> omega) (by constructor <;> omega) (fun h6 => ?_) (fun h6 => ?_)
      · refine j_iload_n (p2 := 29) dL_lit_28 rfl rfl ?_
        refine j_ireturn dL_lit_29 rfl (by have e : i = N := (by omega); subst e; exact hQ)
      · refine j_aload_n (p2 := 10) dL_lit_9 rfl rfl ?_
        refine j_getR (p2 := 13) dL_lit_10 rfl fa_L_9 ly_19 rfl ?_
        refine j_iload_n (p2 := 14) dL_lit_13 rfl rfl ?_
        refine j_iald (p2 := 15) dL_lit_14 rfl ly_20 (by decide) (by omega) (by omega) ?_
        refine j_iconst (p2 := 16) dL_lit_15 rfl ?_
        refine j_icmp_eq (p2 := 19) (tg := 22) dL_lit_16 rfl (by decide) (by exact hfi (by omega)) (by constructor <;> omega) (fun h16 => ?_) (fun h16 => ?_)
        · refine j_iinc (p2 := 25) (lv' := [(0, _), (1, _), (2, _), (3, _)]) dL_lit_22 rfl (Nat.le_of_ble_eq_true rfl) rfl ⟨rfl, rfl, rfl, rfl, trivial⟩ ?_
          refine j_goto (p2 := 4) dL_lit_25 (by decide) ?_
          refine J.loc (lv' := [(0, _), (1, _), (2, _), (3, _)]) ⟨rfl, rfl, rfl, rfl, trivial⟩ ?_
          first
            | exact ih2 (by omega) _ (if_pos h16)
            | exact ih2 (by omega) _ (if_neg h16)
        · refine j_iinc (p2 := 22) (lv' := [(0, _), (1, _), (2, _), (3, _)]) dL_lit_19 rfl (Nat.le_of_ble_eq_true rfl) rfl ⟨rfl, rfl, rfl, rfl, trivial⟩ ?_
          refine j_iinc (p2 := 25) (lv' := [(0, _), (1, _), (2, _), (3, _)]) dL_lit_22 rfl (Nat.le_of_ble_eq_true rfl) rfl ⟨rfl, rfl, rfl, rfl, trivial⟩ ?_
          refine j_goto (p2 := 4) dL_lit_25 (by decide) ?_
          refine J.loc (lv' := [(0, _), (1, _), (2, _), (3, _)]) ⟨rfl, rfl, rfl, rfl, trivial⟩ ?_
          first
            | exact ih2 (by omega) _ (if_pos h16)
            | exact ih2 (by omega) _ (if_neg h16)
  refine j_iconst (p2 := 1) dL_lit_0 rfl ?_
  refine j_istore_n (p2 := 2) (lv' := [(0, _), (1, _), (2, _)]) dL_lit_1 rfl (Nat.le_of_ble_eq_true rfl) ⟨rfl, rfl, rfl, trivial⟩ ?_
  refine j_iconst (p2 := 3) dL_lit_2 rfl ?_
  refine j_istore_n (p2 := 4) (lv' := [(0, _), (1, _), (2, _), (3, _)]) dL_lit_3 rfl (Nat.le_of_ble_eq_true rfl) ⟨rfl, rfl, rfl, rfl, trivial⟩ ?_
  refine J.loc (lv' := [(0, _), (1, _), (2, _), (3, _)]) ⟨rfl, rfl, rfl, rfl, trivial⟩ ?_
  exact loop (N + 1) 0 (by omega) (by omega)
theorem cL_putOut (hQ : Q none (wI (wI σ 19 (fup (hI σ 19) 1 0)) 20 (pw (hI σ 20) (fun _ => -1) 20))) : Sp mL_putOut [vR 19] σ Q := by
  have loop : ∀ (n i : Nat), i ≤ 20 → 21 ≤ i + n → J mL_putOut 7 [(0, vR 19), (1, vI i)] [] (wI (wI σ 19 (fup (hI σ 19) 1 0)) 20 (pw (hI σ 20) (fun _ => -1) i)) Q := by
    intro n
    induction n with
    | zero => intro i h1 h2; exact absurd h2 (by omega)
    | succ n ih =>
      intro i h1 h2
      have ih2 : i < 20 → J mL_putOut 7 [(0, vR 19), (1, vI (i + 1))] [] (wI (wI (wI σ 19 (fup (hI σ 19) 1 0)) 20 (pw (hI σ 20) (fun _ => -1) i)) 20 (fup (hI (wI (wI σ 19 (fup (hI σ 19) 1 0)) 20 (pw (hI σ 20) (fun _ => -1) i)) 20) i (-1))) Q := fun h => by
        have := ih (i + 1) (by omega) (by omega)
        refine this.hp ?_
        rw [wI_wI, ← pw_s]
        rfl
      refine j_iload_n (p2 := 8) dL_putOut_7 rfl rfl ?_
      refine j_bipush (v := 20) (p2 := 10) dL_putOut_8 rfl rfl ?_
      refine j_icmp_ge (p2 := 13) (tg := 26) dL_putOut_10 rfl (by decide) (by constructor <;> omega) (by constructor <;> omega) (fun h10 => ?_) (fun h10 => ?_)
      · refine j_return dL_putOut_26 rfl (by have e : i = 20 := (by omega); subst e; exact hQ)
      · refine j_aload_n (p2 := 14) dL_putOut_13 rfl rfl ?_
        refine j_getR (p2 := 17) dL_putOut_14 rfl fa_L_9 ly_19 rfl ?_
        refine j_iload_n (p2 := 18) dL_putOut_17 rfl rfl ?_
        refine j_iconst (p2 := 19) dL_putOut_18 rfl ?_
        refine j_iastk (p2 := 20) dL_putOut_19 rfl ly_20 (by decide) (by omega) (by omega) ?_
        refine j_iinc (p2 := 23) (lv' := [(0, _), (1, _)]) dL_putOut_20 rfl (Nat.le_of_ble_eq_true rfl) rfl ⟨rfl, rfl, trivial⟩ ?_
        refine j_goto (p2 := 7) dL_putOut_23 (by decide) ?_
        refine J.loc (lv' := [(0, _), (1, _)]) ⟨rfl, rfl, trivial⟩ ?_
        exact ih2 (by omega)
  have start := loop 21 0 (by omega) (by omega)
  have e0 : wI (wI σ 19 (fup (hI σ 19) 1 0)) 20 (pw (hI σ 20) (fun _ => -1) 0) = wI σ 19 (fup (hI σ 19) 1 0) := by
    rw [pw_0]; exact wI_id (wI σ 19 (fup (hI σ 19) 1 0)) 20
  rw [e0] at start
  refine j_aload_n (p2 := 1) dL_putOut_0 rfl rfl ?_
  refine j_iconst (p2 := 2) dL_putOut_1 rfl ?_
  refine j_putIk (p2 := 5) dL_putOut_2 rfl fw_L_15 ly_19 rfl (ki := 1) rfl ?_
  refine j_iconst (p2 := 6) dL_putOut_5 rfl ?_
  refine j_istore_n (p2 := 7) (lv' := [(0, _), (1, _)]) dL_putOut_6 rfl (Nat.le_of_ble_eq_true rfl) ⟨rfl, rfl, trivial⟩ ?_
  refine J.loc (lv' := [(0, _), (1, _)]) ⟨rfl, rfl, trivial⟩ ?_
  exact start
theorem cP_add {k : Int} {x : Int64} (hN : 0 ≤ hI σ 3 0 ∧ hI σ 3 0 < 20) (hQ : ∀ a, (∀ j : Int, 0 ≤ j → j < 6 → a (6 * hI σ 3 0 + j) = -1) → (∀ j : Int, 0 ≤ j → j < 6 * hI σ 3 0 → a j = hI σ 9 j) → Q (some (vI (hI σ 3 0))) (wI (wI (wD (wL (wI (wI σ 3 (fup (hI σ 3) 0 (hI σ 3 0 + 1))) 4 (fup (hI σ 4) (hI σ 3 0) k)) 5 (fup (hL σ 5) (hI σ 3 0) x)) 6 (fup (hD σ 6) (hI σ 3 0) (dec x))) 9 a) 3 (fup (fup (hI σ 3) 0 (hI σ 3 0 + 1)) 3 1))) : Sp mP_add [vR 3, vI k, vL x] σ Q := by
  obtain ⟨M, hM⟩ : ∃ M, M = hI σ 3 0 := ⟨_, rfl⟩
  rw [← hM] at hQ hN
  obtain ⟨τ, hτ⟩ : ∃ τ, τ = wD (wL (wI (wI σ 3 (fup (hI σ 3) 0 (M + 1))) 4 (fup (hI σ 4) M k)) 5 (fup (hL σ 5) M x)) 6 (fup (hD σ 6) M (dec x)) := ⟨_, rfl⟩
  have e9 : hI τ 9 = hI σ 9 := by rw [hτ]; rfl
  have e3 : hI τ 3 = fup (hI σ 3) 0 (M + 1) := by rw [hτ]; rfl
  have loop : ∀ (n i : Nat), i ≤ 6 → 7 ≤ i + n → ∀ a, (∀ j : Int, 0 ≤ j → j < i → a (6 * M + j) = -1) → (∀ j : Int, 0 ≤ j → j < 6 * M → a j = hI σ 9 j) → J mP_add 34 [(0, vR 3), (4, vI M), (5, vI i)] [] (wI τ 9 a) Q := by
    intro n
    induction n with
    | zero => intro i h1 h2; exact absurd h2 (by omega)
    | succ n ih =>
      intro i h1 h2 a ha hb
      have eM : M * 6 + (i : Int) = 6 * M + i := by omega
      have ih2 : i < 6 → J mP_add 34 [(0, vR 3), (4, vI M), (5, vI (i + 1))] [] (wI (wI τ 9 a) 9 (fup (hI (wI τ 9 a) 9) (M * 6 + i) (-1))) Q := fun h => by
        rw [wI_wI, eM]
        refine ih (i + 1) (by omega) (by omega) _ (fun j j0 j1 => ?_) (fun j j0 j1 => ?_)
        · show fup a (6 * M + i) (-1) (6 * M + j) = -1
          by_cases e : j = i
          · rw [e, fup_s]
          · rw [fup_n (by omega)]; exact ha j j0 (by omega)
        · show fup a (6 * M + i) (-1) j = _
          rw [fup_n (by omega)]; exact hb j j0 j1
      refine j_iload (p2 := 36) dP_add_34 rfl rfl ?_
      refine j_bipush (v := 6) (p2 := 38) dP_add_36 rfl rfl ?_
      refine j_icmp_ge (p2 := 41) (tg := 61) dP_add_38 rfl (by decide) (by constructor <;> omega) (by constructor <;> omega) (fun h38 => ?_) (fun h38 => ?_)
      · refine j_aload_n (p2 := 62) dP_add_61 rfl rfl ?_
        refine j_iconst (p2 := 63) dP_add_62 rfl ?_
        refine j_putZk (p2 := 66) dP_add_63 rfl fw_P_18 ly_3 rfl (ki := 3) rfl (by first | exact Or.inl rfl | exact Or.inr rfl | exact bI_or _ | omega) ?_
        refine j_iload (p2 := 68) dP_add_66 rfl rfl ?_
        refine j_ireturn dP_add_68 rfl (by have e : i = 6 := (by omega); subst e; have h3 : hI (wI τ 9 a) 3 = fup (hI σ 3) 0 (M + 1) := e3; rw [h3, hτ]; exact hQ a ha hb)
      · refine j_aload_n (p2 := 42) dP_add_41 rfl rfl ?_
        refine j_getR (p2 := 45) dP_add_42 rfl fa_P_40 ly_3 rfl ?_
        refine j_iload (p2 := 47) dP_add_45 rfl rfl ?_
        refine j_bipush (v := 6) (p2 := 49) dP_add_47 rfl rfl ?_
        refine j_imul (p2 := 50) dP_add_49 rfl ?_
        refine j_iload (p2 := 52) dP_add_50 rfl rfl ?_
        refine j_iadd (p2 := 53) dP_add_52 rfl ?_
        refine j_iconst (p2 := 54) dP_add_53 rfl ?_
        refine j_iastk (p2 := 55) dP_add_54 rfl ly_9 (by decide) (by omega) (by omega) ?_
        refine j_iinc (p2 := 58) (lv' := [(0, _), (4, _), (5, _)]) dP_add_55 rfl (Nat.le_of_ble_eq_true rfl) rfl ⟨rfl, rfl, rfl, trivial⟩ ?_
        refine j_goto (p2 := 34) dP_add_58 (by decide) ?_
        refine J.loc (lv' := [(0, _), (4, _), (5, _)]) ⟨rfl, rfl, rfl, trivial⟩ ?_
        exact ih2 (by omega)
  have start := loop 7 0 (by omega) (by omega) (hI σ 9) (fun j j0 j1 => absurd j1 (by omega)) (fun j _ _ => rfl)
  have e0 : wI τ 9 (hI σ 9) = τ := by rw [← e9]; exact wI_id τ 9
  rw [e0, hτ] at start
  refine j_aload_n (p2 := 1) dP_add_0 rfl rfl ?_
  refine j_getIk (p2 := 4) dP_add_1 rfl fa_P_72 ly_3 rfl (ki := 0) rfl ?_
  refine j_istore (p2 := 6) (lv' := [(0, _), (1, _), (2, _), (4, _)]) dP_add_4 rfl (Nat.le_of_ble_eq_true rfl) ⟨rfl, rfl, rfl, rfl, trivial⟩ ?_
  refine j_aload_n (p2 := 7) dP_add_6 rfl rfl ?_
  refine j_dup (p2 := 8) dP_add_7 rfl rfl ?_
  refine j_getIk (p2 := 11) dP_add_8 rfl fa_P_72 ly_3 rfl (ki := 0) rfl ?_
  refine j_iconst (p2 := 12) dP_add_11 rfl ?_
  refine j_iadd (p2 := 13) dP_add_12 rfl ?_
  refine j_putIk (p2 := 16) dP_add_13 rfl fw_P_72 ly_3 rfl (ki := 0) rfl ?_
  refine j_aload_n (p2 := 17) dP_add_16 rfl rfl ?_
  refine j_getR (p2 := 20) dP_add_17 rfl fa_P_22 ly_3 rfl ?_
  refine j_iload (p2 := 22) dP_add_20 rfl rfl ?_
  refine j_iload_n (p2 := 23) dP_add_22 rfl rfl ?_
  refine j_iastk (p2 := 24) dP_add_23 rfl ly_4 (by decide) (show 0 ≤ hI σ 3 0 by omega) (show hI σ 3 0 < 20 by omega) ?_
  refine j_aload_n (p2 := 25) dP_add_24 rfl rfl ?_
  refine j_iload (p2 := 27) dP_add_25 rfl rfl ?_
  refine j_lload_n (p2 := 28) dP_add_27 rfl rfl ?_
  refine j_callV (m' := mP_set) (As := [_, _]) (p2 := 31) dP_add_28 rfl ml_P_75 ok_mP_set im_mP_set se_mP_set rfl rfl (Nat.le_of_ble_eq_true rfl) ly_3 rfl (Nat.le_of_ble_eq_true rfl) ⟨(Nat.le_of_ble_eq_true rfl), (Nat.le_of_ble_eq_true rfl)⟩ ?_
  rw [← hM]
  refine cP_set (by omega) ?_
  refine j_iconst (p2 := 32) dP_add_31 rfl ?_
  refine j_istore (p2 := 34) (lv' := [(0, _), (4, _), (5, _)]) dP_add_32 rfl (Nat.le_of_ble_eq_true rfl) ⟨rfl, rfl, rfl, trivial⟩ ?_
  refine J.loc (lv' := [(0, _), (4, _), (5, _)]) ⟨rfl, rfl, rfl, trivial⟩ ?_
  exact start
end PAT2
