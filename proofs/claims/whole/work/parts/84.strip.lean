/-! ===== the class's strips ===== -/
section STRP
variable {σ : Hp} {Q : Option PV → Hp → Prop} {N : Nat}
theorem cS_has {s : Int} (hs : inR s) (hn : inR (hI σ 47 0)) (hQ : Q (some (vI (bI (decide (0 ≤ s ∧ s < hI σ 47 0))))) σ) : Sp mS_has [vR 47, vI s] σ Q := by
  refine j_iload_n (p2 := 1) dS_has_0 rfl rfl ?_
  refine j_if_lt (p2 := 4) (tg := 16) dS_has_1 rfl (by decide) (by constructor <;> omega) (fun h1 => ?_) (fun h1 => ?_)
  · refine j_iconst (p2 := 17) dS_has_16 rfl ?_
    refine j_zreturn dS_has_17 rfl (by first | exact Or.inl rfl | exact Or.inr rfl | exact bI_or _ | omega) (by first | exact Q_b1 hQ (by omega) | exact Q_b0 hQ (by omega))
  · refine j_iload_n (p2 := 5) dS_has_4 rfl rfl ?_
    refine j_aload_n (p2 := 6) dS_has_5 rfl rfl ?_
    refine j_getIk (p2 := 9) dS_has_6 rfl fa_S_22 ly_47 rfl (ki := 0) rfl ?_
    refine j_icmp_ge (p2 := 12) (tg := 16) dS_has_9 rfl (by decide) (by constructor <;> omega) (by constructor <;> omega) (fun h9 => ?_) (fun h9 => ?_)
    · refine j_iconst (p2 := 17) dS_has_16 rfl ?_
      refine j_zreturn dS_has_17 rfl (by first | exact Or.inl rfl | exact Or.inr rfl | exact bI_or _ | omega) (by first | exact Q_b1 hQ (by omega) | exact Q_b0 hQ (by omega))
    · refine j_iconst (p2 := 13) dS_has_12 rfl ?_
      refine j_goto (p2 := 17) dS_has_13 (by decide) ?_
      refine j_zreturn dS_has_17 rfl (by first | exact Or.inl rfl | exact Or.inr rfl | exact bI_or _ | omega) (by first | exact Q_b1 hQ (by omega) | exact Q_b0 hQ (by omega))
def saH (σ : Hp) (m : Int) : Hp := wI (wI (wI σ 48 (fup (hI σ 48) (hI σ 47 0) m)) 49 (fup (hI σ 49) (hI σ 47 0) 0)) 47 (fup (hI σ 47) 0 (hI σ 47 0 + 1))
theorem cS_add {m : Int} (hm : inR m) (hn : 0 ≤ hI σ 47 0 ∧ hI σ 47 0 < 6) (hQ : Q (some (vI (hI σ 47 0))) (saH σ m)) : Sp mS_add [vR 47, vI m] σ Q := by
  have e : hI (saH σ m) 47 0 = hI σ 47 0 + 1 := by show fup (hI σ 47) 0 (hI σ 47 0 + 1) 0 = _; exact fup_s _ _ _
  have e2 : hI (saH σ m) 47 0 - 1 = hI σ 47 0 := by rw [e]; omega
  rw [← e2] at hQ
  have e3 : 0 ≤ hI (saH σ m) 47 0 - 1 ∧ hI (saH σ m) 47 0 - 1 < 6 := by omega
  obtain ⟨τ, hτ⟩ : ∃ τ, τ = saH σ m := ⟨_, rfl⟩
  rw [← hτ] at hQ e3
  have at30 : J mS_add 30 [(0, vR 47)] [] τ Q := by
    refine j_aload_n (p2 := 31) dS_add_30 rfl rfl ?_
    refine j_getIk (p2 := 34) dS_add_31 rfl fa_S_22 ly_47 rfl (ki := 0) rfl ?_
    refine j_iconst (p2 := 35) dS_add_34 rfl ?_
    refine j_isub (p2 := 36) dS_add_35 rfl ?_
    refine j_ireturn dS_add_36 rfl (by exact hQ)
  rw [hτ] at at30
  refine j_aload_n (p2 := 1) dS_add_0 rfl rfl ?_
  refine j_getR (p2 := 4) dS_add_1 rfl fa_S_9 ly_47 rfl ?_
  refine j_aload_n (p2 := 5) dS_add_4 rfl rfl ?_
  refine j_getIk (p2 := 8) dS_add_5 rfl fa_S_22 ly_47 rfl (ki := 0) rfl ?_
  refine j_iload_n (p2 := 9) dS_add_8 rfl rfl ?_
  refine j_iastk (p2 := 10) dS_add_9 rfl ly_48 (by decide) (by omega) (by omega) ?_
  refine j_aload_n (p2 := 11) dS_add_10 rfl rfl ?_
  refine j_getR (p2 := 14) dS_add_11 rfl fa_S_15 ly_47 rfl ?_
  refine j_aload_n (p2 := 15) dS_add_14 rfl rfl ?_
  refine j_getIk (p2 := 18) dS_add_15 rfl fa_S_22 ly_47 rfl (ki := 0) rfl ?_
  refine j_iconst (p2 := 19) dS_add_18 rfl ?_
  refine j_iastk (p2 := 20) dS_add_19 rfl ly_49 (by decide) (by show 0 ≤ hI σ 47 0; omega) (by show hI σ 47 0 < 6; omega) ?_
  refine j_aload_n (p2 := 21) dS_add_20 rfl rfl ?_
  refine j_dup (p2 := 22) dS_add_21 rfl rfl ?_
  refine j_getIk (p2 := 25) dS_add_22 rfl fa_S_22 ly_47 rfl (ki := 0) rfl ?_
  refine j_iconst (p2 := 26) dS_add_25 rfl ?_
  refine j_iadd (p2 := 27) dS_add_26 rfl ?_
  refine j_putIk (p2 := 30) dS_add_27 rfl fw_S_22 ly_47 rfl (ki := 0) rfl ?_
  refine J.loc (lv' := [(0, _)]) ⟨rfl, trivial⟩ ?_
  exact at30
theorem cS_at {s i : Int} (hs : 0 ≤ s ∧ s < 6) (hi : 0 ≤ i ∧ i < 120) (hQ : Q (some (vL (hL σ 50 (s * 120 + i)))) σ) : Sp mS_at [vR 47, vI s, vI i] σ Q := by
  refine j_aload_n (p2 := 1) dS_at_0 rfl rfl ?_
  refine j_getR (p2 := 4) dS_at_1 rfl fa_S_18 ly_47 rfl ?_
  refine j_iload_n (p2 := 5) dS_at_4 rfl rfl ?_
  refine j_bipush (v := 120) (p2 := 7) dS_at_5 rfl rfl ?_
  refine j_imul (p2 := 8) dS_at_7 rfl ?_
  refine j_iload_n (p2 := 9) dS_at_8 rfl rfl ?_
  refine j_iadd (p2 := 10) dS_at_9 rfl ?_
  refine j_lald (p2 := 11) dS_at_10 rfl ly_50 (by decide) (by omega) (by omega) ?_
  refine j_lreturn dS_at_11 rfl (by exact hQ)
theorem cS_haveRoomFor {r : Int} (hN : hI σ 47 0 = N ∧ N ≤ 6) (hl : ∀ s : Int, 0 ≤ s → s < N → 0 ≤ hI σ 49 s ∧ hI σ 49 s ≤ 120) (hr : 0 ≤ r ∧ r ≤ 1000) (h1 : (∀ s : Int, 0 ≤ s → s < N → hI σ 49 s + r ≤ 120) → Q (some (vI 1)) σ) (h2 : (¬ ∀ s : Int, 0 ≤ s → s < N → hI σ 49 s + r ≤ 120) → Q (some (vI 0)) σ) : Sp mS_haveRoomFor [vR 47, vI r] σ Q := by
  obtain ⟨hN, hN2⟩ := hN
  have loop : ∀ (n i : Nat), i ≤ N → N + 1 ≤ i + n → (∀ s : Int, 0 ≤ s → s < i → hI σ 49 s + r ≤ 120) → J mS_haveRoomFor 2 [(0, vR 47), (1, vI r), (2, vI i)] [] σ Q := by
    intro n
    induction n with
    | zero => intro i h1 h2; exact absurd h2 (by omega)
    | succ n ih =>
      intro i a1 a2 a3
      have hli : i < N → 0 ≤ hI σ 49 i ∧ hI σ 49 i ≤ 120 := fun h => hl i (by omega) (by omega)
      refine j_iload_n (p2 := 3) dS_haveRoomFor_2 rfl rfl ?_
      refine j_aload_n (p2 := 4) dS_haveRoomFor_3 rfl rfl ?_
      refine j_getIk (p2 := 7) dS_haveRoomFor_4 rfl fa_S_22 ly_47 rfl (ki := 0) rfl ?_
      refine j_icmp_ge (p2 := 10) (tg := 31) dS_haveRoomFor_7 rfl (by decide) (by constructor <;> omega) (by constructor <;> omega) (fun h7 => ?_) (fun h7 => ?_)
      · refine j_iconst (p2 := 32) dS_haveRoomFor_31 rfl ?_
        refine j_zreturn dS_haveRoomFor_32 rfl (by first | exact Or.inl rfl | exact Or.inr rfl | exact bI_or _ | omega) (by first | (refine h2 (fun q => ?_); have := q i (by omega) (by omega); omega) | exact h1 (fun s x y => a3 s x (by omega)))
      · refine j_aload_n (p2 := 11) dS_haveRoomFor_10 rfl rfl ?_
        refine j_getR (p2 := 14) dS_haveRoomFor_11 rfl fa_S_15 ly_47 rfl ?_
        refine j_iload_n (p2 := 15) dS_haveRoomFor_14 rfl rfl ?_
        refine j_iald (p2 := 16) dS_haveRoomFor_15 rfl ly_49 (by decide) (by omega) (by omega) ?_
        refine j_iload_n (p2 := 17) dS_haveRoomFor_16 rfl rfl ?_
        refine j_iadd (p2 := 18) dS_haveRoomFor_17 rfl ?_
        refine j_bipush (v := 120) (p2 := 20) dS_haveRoomFor_18 rfl rfl ?_
        refine j_icmp_le (p2 := 23) (tg := 25) dS_haveRoomFor_20 rfl (by decide) (by have := hli (by omega); constructor <;> omega) (by constructor <;> omega) (fun h20 => ?_) (fun h20 => ?_)
        · refine j_iinc (p2 := 28) (lv' := [(0, _), (1, _), (2, _)]) dS_haveRoomFor_25 rfl (Nat.le_of_ble_eq_true rfl) rfl ⟨rfl, rfl, rfl, trivial⟩ ?_
          refine j_goto (p2 := 2) dS_haveRoomFor_28 (by decide) ?_
          refine J.loc (lv' := [(0, _), (1, _), (2, _)]) ⟨rfl, rfl, rfl, trivial⟩ ?_
          refine ih (i + 1) (by omega) (by omega) (fun s x y => ?_)
          by_cases c : s = i
          · rw [c]; exact h20
          · exact a3 s x (by omega)
        · refine j_iconst (p2 := 24) dS_haveRoomFor_23 rfl ?_
          refine j_zreturn dS_haveRoomFor_24 rfl (by first | exact Or.inl rfl | exact Or.inr rfl | exact bI_or _ | omega) (by first | (refine h2 (fun q => ?_); have := q i (by omega) (by omega); omega) | exact h1 (fun s x y => a3 s x (by omega)))
  refine j_iconst (p2 := 1) dS_haveRoomFor_0 rfl ?_
  refine j_istore_n (p2 := 2) (lv' := [(0, _), (1, _), (2, _)]) dS_haveRoomFor_1 rfl (Nat.le_of_ble_eq_true rfl) ⟨rfl, rfl, rfl, trivial⟩ ?_
  refine J.loc (lv' := [(0, _), (1, _), (2, _)]) ⟨rfl, rfl, rfl, trivial⟩ ?_
  exact loop (N + 1) 0 (by omega) (by omega) (fun s x y => by omega)
def scH (σ : Hp) (N : Nat) : Hp := wI σ 49 (pw (hI σ 49) (fun _ => 0) N)
theorem cS_clear (hN : hI σ 47 0 = N ∧ N ≤ 6) (hQ : Q none (scH σ N)) : Sp mS_clear [vR 47] σ Q := by
  obtain ⟨hN, hN2⟩ := hN
  have loop : ∀ (n i : Nat), i ≤ N → N + 1 ≤ i + n → J mS_clear 2 [(0, vR 47), (1, vI i)] [] (scH σ i) Q := by
    intro n
    induction n with
    | zero => intro i h1 h2; exact absurd h2 (by omega)
    | succ n ih =>
      intro i h1 h2
      have eN : hI (scH σ i) 47 0 = N := hN
      have ih2 : i < N → J mS_clear 2 [(0, vR 47), (1, vI (i + 1))] [] (scH σ (i + 1)) Q := fun h => ih (i + 1) (by omega) (by omega)
      have yes : scH σ (i + 1) = wI (scH σ i) 49 (fup (hI (scH σ i) 49) i 0) := by
        unfold scH
        rw [← pw_s (hI σ 49) (fun _ => 0) i, wI_wI]
        rfl
      refine j_iload_n (p2 := 3) dS_clear_2 rfl rfl ?_
      refine j_aload_n (p2 := 4) dS_clear_3 rfl rfl ?_
      refine j_getIk (p2 := 7) dS_clear_4 rfl fa_S_22 ly_47 rfl (ki := 0) rfl ?_
      refine j_icmp_ge (p2 := 10) (tg := 23) dS_clear_7 rfl (by decide) (by constructor <;> omega) (by rw [eN]; constructor <;> omega) (fun h7 => ?_) (fun h7 => ?_)
      · refine j_return dS_clear_23 rfl (by rw [eN] at h7; have e : i = N := (by omega); subst e; exact hQ)
      · refine J.loc (lv' := [(0, _), (1, _)]) ⟨rfl, rfl, trivial⟩ ?_
        rw [eN] at h7
        refine j_aload_n (p2 := 11) dS_clear_10 rfl rfl ?_
        refine j_getR (p2 := 14) dS_clear_11 rfl fa_S_15 ly_47 rfl ?_
        refine j_iload_n (p2 := 15) dS_clear_14 rfl rfl ?_
        refine j_iconst (p2 := 16) dS_clear_15 rfl ?_
        refine j_iastk (p2 := 17) dS_clear_16 rfl ly_49 (by decide) (by omega) (by omega) ?_
        refine j_iinc (p2 := 20) (lv' := [(0, _), (1, _)]) dS_clear_17 rfl (Nat.le_of_ble_eq_true rfl) rfl ⟨rfl, rfl, trivial⟩ ?_
        refine j_goto (p2 := 2) dS_clear_20 (by decide) ?_
        refine J.loc (lv' := [(0, _), (1, _)]) ⟨rfl, rfl, trivial⟩ ?_
        exact (ih2 (by omega)).hp yes
  refine j_iconst (p2 := 1) dS_clear_0 rfl ?_
  refine j_istore_n (p2 := 2) (lv' := [(0, _), (1, _)]) dS_clear_1 rfl (Nat.le_of_ble_eq_true rfl) ⟨rfl, rfl, trivial⟩ ?_
  refine J.loc (lv' := [(0, _), (1, _)]) ⟨rfl, rfl, trivial⟩ ?_
  exact (loop (N + 1) 0 (by omega) (by omega)).hp (by unfold scH; rw [pw_0, wI_id])
/-- the strips take the readings of twin d -/
def stH (σ : Hp) (N : Nat) : Hp := wI (wL σ 50 (pw (hL σ 50) (tkS (hI σ 49) (hI σ 48) (fun k => (hD σ 22 k).toInt64) (hL σ 50)) (120 * N))) 49 (pw (hI σ 49) (fun s => hI σ 49 s + 1) N)
theorem stH_0 : stH σ 0 = σ := by
  unfold stH
  rw [show 120 * 0 = 0 from rfl, pw_0, pw_0, wL_id, wI_id]
theorem st_step {a b : Int → Int64} {c d : Int → Int} : wI (wL (wI (wL σ 50 a) 49 c) 50 b) 49 d = wI (wL σ 50 b) 49 d := by
  show (up1 (up1 σ.1 49 c) 49 d, up1 (up1 σ.2.1 50 a) 50 b, σ.2.2.1, σ.2.2.2) = (up1 σ.1 49 d, up1 σ.2.1 50 b, σ.2.2.1, σ.2.2.2)
  simp only [up1_up1]
theorem cS_take (hN : hI σ 47 0 = N ∧ N ≤ 6) (hs : ∀ s : Int, 0 ≤ s → s < N → (0 ≤ hI σ 49 s ∧ hI σ 49 s < 120) ∧ (0 ≤ hI σ 48 s ∧ hI σ 48 s < 20) ∧ ((hD σ 22 (hI σ 48 s)).toNat % 2 ^ 63 < 2047 * 2 ^ 52 ∧ (hD σ 22 (hI σ 48 s)).toNat ≠ 2 ^ 63)) (hQ : Q none (stH σ N)) : Sp mS_take [vR 47, vR 22] σ Q := by
  obtain ⟨hN, hN2⟩ := hN
  have loop : ∀ (n i : Nat), i ≤ N → N + 1 ≤ i + n → J mS_take 2 [(0, vR 47), (1, vR 22), (2, vI i)] [] (stH σ i) Q := by
    intro n
    induction n with
    | zero => intro i h1 h2; exact absurd h2 (by omega)
    | succ n ih =>
      intro i h1 h2
      have eN : hI (stH σ i) 47 0 = N := hN
      have hsi : i < N → (0 ≤ hI σ 49 i ∧ hI σ 49 i < 120) ∧ (0 ≤ hI σ 48 i ∧ hI σ 48 i < 20) ∧ ((hD σ 22 (hI σ 48 i)).toNat % 2 ^ 63 < 2047 * 2 ^ 52 ∧ (hD σ 22 (hI σ 48 i)).toNat ≠ 2 ^ 63) := fun h => hs i (by omega) (by omega)
      have ih2 : i < N → J mS_take 2 [(0, vR 47), (1, vR 22), (2, vI (i + 1))] [] (stH σ (i + 1)) Q := fun h => ih (i + 1) (by omega) (by omega)
      have eS : hI (stH σ i) 49 i = hI σ 49 i := pw_at (hI σ 49) (fun s => hI σ 49 s + 1) i
      have eO : hI (stH σ i) 48 i = hI σ 48 i := rfl
      have yes : i < N → stH σ (i + 1) = wI (wL (stH σ i) 50 (fup (hL (stH σ i) 50) (i * 120 + hI (stH σ i) 49 i) (hD σ 22 (hI σ 48 i)).toInt64)) 49 (fup (hI (stH σ i) 49) i (hI (stH σ i) 49 i + 1)) := fun h => by
        rw [eS, Int.mul_comm (i : Int) 120]
        unfold stH
        rw [st_step]
        have e1 := tkS_s (ns := hI σ 49) (so := hI σ 48) (r := fun k => (hD σ 22 k).toInt64) (sm := hL σ 50) (hsi h).1
        have e2 := pw_s (hI σ 49) (fun s => hI σ 49 s + 1) i
        rw [← e1, ← e2]
        rfl
      refine j_iload_n (p2 := 3) dS_take_2 rfl rfl ?_
      refine j_aload_n (p2 := 4) dS_take_3 rfl rfl ?_
      refine j_getIk (p2 := 7) dS_take_4 rfl fa_S_22 ly_47 rfl (ki := 0) rfl ?_
      refine j_icmp_ge (p2 := 10) (tg := 64) dS_take_7 rfl (by decide) (by constructor <;> omega) (by rw [eN]; constructor <;> omega) (fun h7 => ?_) (fun h7 => ?_)
      · refine j_return dS_take_64 rfl (by rw [eN] at h7; have e : i = N := (by omega); subst e; exact hQ)
      · refine J.loc (lv' := [(0, _), (1, _), (2, _)]) ⟨rfl, rfl, rfl, trivial⟩ ?_
        rw [eN] at h7
        have hb := hsi (by omega)
        refine j_aload_n (p2 := 11) dS_take_10 rfl rfl ?_
        refine j_getR (p2 := 14) dS_take_11 rfl fa_S_15 ly_47 rfl ?_
        refine j_iload_n (p2 := 15) dS_take_14 rfl rfl ?_
        refine j_iald (p2 := 16) dS_take_15 rfl ly_49 (by decide) (by omega) (by omega) ?_
        refine j_bipush (v := 120) (p2 := 18) dS_take_16 rfl rfl ?_
        refine j_icmp_ge (p2 := 21) (tg := 58) dS_take_18 rfl (by decide) (by rw [eS]; constructor <;> omega) (by constructor <;> omega) (fun h18 => ?_) (fun h18 => ?_)
        · refine j_iinc (p2 := 61) (lv' := [(0, _), (1, _), (2, _)]) dS_take_58 rfl (Nat.le_of_ble_eq_true rfl) rfl ⟨rfl, rfl, rfl, trivial⟩ ?_
          refine j_goto (p2 := 2) dS_take_61 (by decide) ?_
          refine J.loc (lv' := [(0, _), (1, _), (2, _)]) ⟨rfl, rfl, rfl, trivial⟩ ?_
          first
            | (exfalso; rw [eS] at h18; omega)
            | exact (ih2 (by omega)).hp (yes (by omega))
        · refine j_aload_n (p2 := 22) dS_take_21 rfl rfl ?_
          refine j_getR (p2 := 25) dS_take_22 rfl fa_S_18 ly_47 rfl ?_
          refine j_iload_n (p2 := 26) dS_take_25 rfl rfl ?_
          refine j_bipush (v := 120) (p2 := 28) dS_take_26 rfl rfl ?_
          refine j_imul (p2 := 29) dS_take_28 rfl ?_
          refine j_aload_n (p2 := 30) dS_take_29 rfl rfl ?_
          refine j_getR (p2 := 33) dS_take_30 rfl fa_S_15 ly_47 rfl ?_
          refine j_iload_n (p2 := 34) dS_take_33 rfl rfl ?_
          refine j_iald (p2 := 35) dS_take_34 rfl ly_49 (by decide) (by omega) (by omega) ?_
          refine j_iadd (p2 := 36) dS_take_35 rfl ?_
          refine j_aload_n (p2 := 37) dS_take_36 rfl rfl ?_
          refine j_aload_n (p2 := 38) dS_take_37 rfl rfl ?_
          refine j_getR (p2 := 41) dS_take_38 rfl fa_S_9 ly_47 rfl ?_
          refine j_iload_n (p2 := 42) dS_take_41 rfl rfl ?_
          refine j_iald (p2 := 43) dS_take_42 rfl ly_48 (by decide) (by omega) (by omega) ?_
          refine j_dald (p2 := 44) dS_take_43 rfl ly_22 (by decide) (by rw [eO]; omega) (by rw [eO]; omega) ?_
          refine j_callS (m' := mN_bitsOf) (As := [_]) (p2 := 47) dS_take_44 rfl ml_S_26 ok_mN_bitsOf sm_mN_bitsOf rfl rfl (Nat.le_of_ble_eq_true rfl) (Nat.le_of_ble_eq_true rfl) ⟨(Nat.le_of_ble_eq_true rfl), (Nat.le_of_ble_eq_true rfl)⟩ ?_
          refine cN_bitsOf hb.2.2.1 hb.2.2.2 ?_
          refine j_lastk (p2 := 48) dS_take_47 rfl ly_50 (by decide) (by rw [eS]; omega) (by rw [eS]; omega) ?_
          refine j_aload_n (p2 := 49) dS_take_48 rfl rfl ?_
          refine j_getR (p2 := 52) dS_take_49 rfl fa_S_15 ly_47 rfl ?_
          refine j_iload_n (p2 := 53) dS_take_52 rfl rfl ?_
          refine j_dup2 (p2 := 54) dS_take_53 rfl rfl rfl ?_
          refine j_iald (p2 := 55) dS_take_54 rfl ly_49 (by decide) (by omega) (by omega) ?_
          refine j_iconst (p2 := 56) dS_take_55 rfl ?_
          refine j_iadd (p2 := 57) dS_take_56 rfl ?_
          refine j_iastk (p2 := 58) dS_take_57 rfl ly_49 (by decide) (by omega) (by omega) ?_
          refine j_iinc (p2 := 61) (lv' := [(0, _), (1, _), (2, _)]) dS_take_58 rfl (Nat.le_of_ble_eq_true rfl) rfl ⟨rfl, rfl, rfl, trivial⟩ ?_
          refine j_goto (p2 := 2) dS_take_61 (by decide) ?_
          refine J.loc (lv' := [(0, _), (1, _), (2, _)]) ⟨rfl, rfl, rfl, trivial⟩ ?_
          first
            | (exfalso; rw [eS] at h18; omega)
            | exact (ih2 (by omega)).hp (yes (by omega))
  refine j_iconst (p2 := 1) dS_take_0 rfl ?_
  refine j_istore_n (p2 := 2) (lv' := [(0, _), (1, _), (2, _)]) dS_take_1 rfl (Nat.le_of_ble_eq_true rfl) ⟨rfl, rfl, rfl, trivial⟩ ?_
  refine J.loc (lv' := [(0, _), (1, _), (2, _)]) ⟨rfl, rfl, rfl, trivial⟩ ?_
  exact (loop (N + 1) 0 (by omega) (by omega)).hp stH_0
/-- a rank of bits -/
def rkL (x : Int64) : Int64 := if x < 0 then -9223372036854775808 - x else x
theorem cS_rank {x : Int64} (hQ : Q (some (vL (rkL x))) σ) : Sp mS_rank [vL x] σ Q := by
  unfold rkL at hQ
  refine j_lload_n (p2 := 1) dS_rank_0 rfl rfl ?_
  refine j_lconst (v := 0) (p2 := 2) dS_rank_1 rfl rfl ?_
  refine j_lcmp_lt (p1 := 3) (p2 := 6) (tg := 10) dS_rank_2 rfl dS_rank_3 rfl (by decide) (fun h2 => ?_) (fun h2 => ?_)
  · refine j_ldc2 (p2 := 13) dS_rank_10 rfl cw_S_47 ?_
    refine j_lload_n (p2 := 14) dS_rank_13 rfl rfl ?_
    refine j_lsub (p2 := 15) dS_rank_14 rfl ?_
    refine j_lreturn dS_rank_15 rfl (by first | (rw [if_pos h2] at hQ; exact hQ) | (rw [if_neg h2] at hQ; exact hQ))
  · refine j_lload_n (p2 := 7) dS_rank_6 rfl rfl ?_
    refine j_goto (p2 := 15) dS_rank_7 (by decide) ?_
    refine j_lreturn dS_rank_15 rfl (by first | (rw [if_pos h2] at hQ; exact hQ) | (rw [if_neg h2] at hQ; exact hQ))
def crL (f : Int → Int64) (s i : Int) : Bool := decide (f (s * 120 + i) ≤ 0) != decide (f (s * 120 + (i - 1)) ≤ 0)
theorem cS_isCrossing {s i : Int} (hs : 0 ≤ s ∧ s < 6) (hi : 1 ≤ i ∧ i < 120) (hQ : Q (some (vI (bI (crL (hL σ 50) s i)))) σ) : Sp mS_isCrossing [vR 47, vI s, vI i] σ Q := by
  unfold crL at hQ
  refine j_aload_n (p2 := 1) dS_isCrossing_0 rfl rfl ?_
  refine j_iload_n (p2 := 2) dS_isCrossing_1 rfl rfl ?_
  refine j_iload_n (p2 := 3) dS_isCrossing_2 rfl rfl ?_
  refine j_callV (m' := mS_at) (As := [_, _]) (p2 := 6) dS_isCrossing_3 rfl ml_S_39 ok_mS_at im_mS_at se_mS_at rfl rfl (Nat.le_of_ble_eq_true rfl) ly_47 rfl (Nat.le_of_ble_eq_true rfl) ⟨(Nat.le_of_ble_eq_true rfl), (Nat.le_of_ble_eq_true rfl)⟩ ?_
  refine cS_at hs (by omega) ?_
  refine j_lconst (v := 0) (p2 := 7) dS_isCrossing_6 rfl rfl ?_
  refine j_lcmp_le (p1 := 8) (p2 := 11) (tg := 15) dS_isCrossing_7 rfl dS_isCrossing_8 rfl (by decide) (fun h7 => ?_) (fun h7 => ?_)
  · refine j_iconst (p2 := 16) dS_isCrossing_15 rfl ?_
    refine j_aload_n (p2 := 17) dS_isCrossing_16 rfl rfl ?_
    refine j_iload_n (p2 := 18) dS_isCrossing_17 rfl rfl ?_
    refine j_iload_n (p2 := 19) dS_isCrossing_18 rfl rfl ?_
    refine j_iconst (p2 := 20) dS_isCrossing_19 rfl ?_
    refine j_isub (p2 := 21) dS_isCrossing_20 rfl ?_
    refine j_callV (m' := mS_at) (As := [_, _]) (p2 := 24) dS_isCrossing_21 rfl ml_S_39 ok_mS_at im_mS_at se_mS_at rfl rfl (Nat.le_of_ble_eq_true rfl) ly_47 rfl (Nat.le_of_ble_eq_true rfl) ⟨(Nat.le_of_ble_eq_true rfl), (Nat.le_of_ble_eq_true rfl)⟩ ?_
    refine cS_at hs (by omega) ?_
    refine j_lconst (v := 0) (p2 := 25) dS_isCrossing_24 rfl rfl ?_
    refine j_lcmp_le (p1 := 26) (p2 := 29) (tg := 33) dS_isCrossing_25 rfl dS_isCrossing_26 rfl (by decide) (fun h25 => ?_) (fun h25 => ?_)
    · refine j_iconst (p2 := 34) dS_isCrossing_33 rfl ?_
      refine j_icmp_eq (p2 := 37) (tg := 41) dS_isCrossing_34 rfl (by decide) (by constructor <;> omega) (by constructor <;> omega) (fun h34 => ?_) (fun h34 => ?_)
      · refine j_iconst (p2 := 42) dS_isCrossing_41 rfl ?_
        refine j_zreturn dS_isCrossing_42 rfl (by first | exact Or.inl rfl | exact Or.inr rfl | exact bI_or _ | omega) (by first | (exfalso; omega) | (rw [decide_eq_true h7, decide_eq_true h25] at hQ; exact hQ) | (rw [decide_eq_true h7, decide_eq_false h25] at hQ; exact hQ) | (rw [decide_eq_false h7, decide_eq_true h25] at hQ; exact hQ) | (rw [decide_eq_false h7, decide_eq_false h25] at hQ; exact hQ))
      · refine j_iconst (p2 := 38) dS_isCrossing_37 rfl ?_
        refine j_goto (p2 := 42) dS_isCrossing_38 (by decide) ?_
        refine j_zreturn dS_isCrossing_42 rfl (by first | exact Or.inl rfl | exact Or.inr rfl | exact bI_or _ | omega) (by first | (exfalso; omega) | (rw [decide_eq_true h7, decide_eq_true h25] at hQ; exact hQ) | (rw [decide_eq_true h7, decide_eq_false h25] at hQ; exact hQ) | (rw [decide_eq_false h7, decide_eq_true h25] at hQ; exact hQ) | (rw [decide_eq_false h7, decide_eq_false h25] at hQ; exact hQ))
    · refine j_iconst (p2 := 30) dS_isCrossing_29 rfl ?_
      refine j_goto (p2 := 34) dS_isCrossing_30 (by decide) ?_
      refine j_icmp_eq (p2 := 37) (tg := 41) dS_isCrossing_34 rfl (by decide) (by constructor <;> omega) (by constructor <;> omega) (fun h34 => ?_) (fun h34 => ?_)
      · refine j_iconst (p2 := 42) dS_isCrossing_41 rfl ?_
        refine j_zreturn dS_isCrossing_42 rfl (by first | exact Or.inl rfl | exact Or.inr rfl | exact bI_or _ | omega) (by first | (exfalso; omega) | (rw [decide_eq_true h7, decide_eq_true h25] at hQ; exact hQ) | (rw [decide_eq_true h7, decide_eq_false h25] at hQ; exact hQ) | (rw [decide_eq_false h7, decide_eq_true h25] at hQ; exact hQ) | (rw [decide_eq_false h7, decide_eq_false h25] at hQ; exact hQ))
      · refine j_iconst (p2 := 38) dS_isCrossing_37 rfl ?_
        refine j_goto (p2 := 42) dS_isCrossing_38 (by decide) ?_
        refine j_zreturn dS_isCrossing_42 rfl (by first | exact Or.inl rfl | exact Or.inr rfl | exact bI_or _ | omega) (by first | (exfalso; omega) | (rw [decide_eq_true h7, decide_eq_true h25] at hQ; exact hQ) | (rw [decide_eq_true h7, decide_eq_false h25] at hQ; exact hQ) | (rw [decide_eq_false h7, decide_eq_true h25] at hQ; exact hQ) | (rw [decide_eq_false h7, decide_eq_false h25] at hQ; exact hQ))
  · refine j_iconst (p2 := 12) dS_isCrossing_11 rfl ?_
    refine j_goto (p2 := 16) dS_isCrossing_12 (by decide) ?_
    refine j_aload_n (p2 := 17) dS_isCrossing_16 rfl rfl ?_
    refine j_iload_n (p2 := 18) dS_isCrossing_17 rfl rfl ?_
    refine j_iload_n (p2 := 19) dS_isCrossing_18 rfl rfl ?_
    refine j_iconst (p2 := 20) dS_isCrossing_19 rfl ?_
    refine j_isub (p2 := 21) dS_isCrossing_20 rfl ?_
    refine j_callV (m' := mS_at) (As := [_, _]) (p2 := 24) dS_isCrossing_21 rfl ml_S_39 ok_mS_at im_mS_at se_mS_at rfl rfl (Nat.le_of_ble_eq_true rfl) ly_47 rfl (Nat.le_of_ble_eq_true rfl) ⟨(Nat.le_of_ble_eq_true rfl), (Nat.le_of_ble_eq_true rfl)⟩ ?_
    refine cS_at hs (by omega) ?_
    refine j_lconst (v := 0) (p2 := 25) dS_isCrossing_24 rfl rfl ?_
    refine j_lcmp_le (p1 := 26) (p2 := 29) (tg := 33) dS_isCrossing_25 rfl dS_isCrossing_26 rfl (by decide) (fun h25 => ?_) (fun h25 => ?_)
    · refine j_iconst (p2 := 34) dS_isCrossing_33 rfl ?_
      refine j_icmp_eq (p2 := 37) (tg := 41) dS_isCrossing_34 rfl (by decide) (by constructor <;> omega) (by constructor <;> omega) (fun h34 => ?_) (fun h34 => ?_)
      · refine j_iconst (p2 := 42) dS_isCrossing_41 rfl ?_
        refine j_zreturn dS_isCrossing_42 rfl (by first | exact Or.inl rfl | exact Or.inr rfl | exact bI_or _ | omega) (by first | (exfalso; omega) | (rw [decide_eq_true h7, decide_eq_true h25] at hQ; exact hQ) | (rw [decide_eq_true h7, decide_eq_false h25] at hQ; exact hQ) | (rw [decide_eq_false h7, decide_eq_true h25] at hQ; exact hQ) | (rw [decide_eq_false h7, decide_eq_false h25] at hQ; exact hQ))
      · refine j_iconst (p2 := 38) dS_isCrossing_37 rfl ?_
        refine j_goto (p2 := 42) dS_isCrossing_38 (by decide) ?_
        refine j_zreturn dS_isCrossing_42 rfl (by first | exact Or.inl rfl | exact Or.inr rfl | exact bI_or _ | omega) (by first | (exfalso; omega) | (rw [decide_eq_true h7, decide_eq_true h25] at hQ; exact hQ) | (rw [decide_eq_true h7, decide_eq_false h25] at hQ; exact hQ) | (rw [decide_eq_false h7, decide_eq_true h25] at hQ; exact hQ) | (rw [decide_eq_false h7, decide_eq_false h25] at hQ; exact hQ))
    · refine j_iconst (p2 := 30) dS_isCrossing_29 rfl ?_
      refine j_goto (p2 := 34) dS_isCrossing_30 (by decide) ?_
      refine j_icmp_eq (p2 := 37) (tg := 41) dS_isCrossing_34 rfl (by decide) (by constructor <;> omega) (by constructor <;> omega) (fun h34 => ?_) (fun h34 => ?_)
      · refine j_iconst (p2 := 42) dS_isCrossing_41 rfl ?_
        refine j_zreturn dS_isCrossing_42 rfl (by first | exact Or.inl rfl | exact Or.inr rfl | exact bI_or _ | omega) (by first | (exfalso; omega) | (rw [decide_eq_true h7, decide_eq_true h25] at hQ; exact hQ) | (rw [decide_eq_true h7, decide_eq_false h25] at hQ; exact hQ) | (rw [decide_eq_false h7, decide_eq_true h25] at hQ; exact hQ) | (rw [decide_eq_false h7, decide_eq_false h25] at hQ; exact hQ))
      · refine j_iconst (p2 := 38) dS_isCrossing_37 rfl ?_
        refine j_goto (p2 := 42) dS_isCrossing_38 (by decide) ?_
        refine j_zreturn dS_isCrossing_42 rfl (by first | exact Or.inl rfl | exact Or.inr rfl | exact bI_or _ | omega) (by first | (exfalso; omega) | (rw [decide_eq_true h7, decide_eq_true h25] at hQ; exact hQ) | (rw [decide_eq_true h7, decide_eq_false h25] at hQ; exact hQ) | (rw [decide_eq_false h7, decide_eq_true h25] at hQ; exact hQ) | (rw [decide_eq_false h7, decide_eq_false h25] at hQ; exact hQ))
def pkL (f : Int → Int64) (n s i : Int) : Bool := decide (i + 1 < n) && !decide (rkL (f (s * 120 + i)) ≤ rkL (f (s * 120 + (i - 1)))) && !decide (rkL (f (s * 120 + i)) < rkL (f (s * 120 + (i + 1))))
theorem cS_isPeak {s i : Int} (hs : 0 ≤ s ∧ s < 6) (hl : 0 ≤ hI σ 49 s ∧ hI σ 49 s ≤ 120) (hi : 1 ≤ i ∧ i < 120) (hQ : Q (some (vI (bI (pkL (hL σ 50) (hI σ 49 s) s i)))) σ) : Sp mS_isPeak [vR 47, vI s, vI i] σ Q := by
  unfold pkL at hQ
  refine j_iload_n (p2 := 1) dS_isPeak_0 rfl rfl ?_
  refine j_iconst (p2 := 2) dS_isPeak_1 rfl ?_
  refine j_iadd (p2 := 3) dS_isPeak_2 rfl ?_
  refine j_aload_n (p2 := 4) dS_isPeak_3 rfl rfl ?_
  refine j_getR (p2 := 7) dS_isPeak_4 rfl fa_S_15 ly_47 rfl ?_
  refine j_iload_n (p2 := 8) dS_isPeak_7 rfl rfl ?_
  refine j_iald (p2 := 9) dS_isPeak_8 rfl ly_49 (by decide) (by omega) (by omega) ?_
  refine j_icmp_ge (p2 := 12) (tg := 64) dS_isPeak_9 rfl (by decide) (by constructor <;> omega) (by constructor <;> omega) (fun h9 => ?_) (fun h9 => ?_)
  · refine j_iconst (p2 := 65) dS_isPeak_64 rfl ?_
    refine j_zreturn dS_isPeak_65 rfl (by first | exact Or.inl rfl | exact Or.inr rfl | exact bI_or _ | omega) (by first | (rw [decide_eq_false (p := i + 1 < hI σ 49 s) (by omega)] at hQ; exact hQ) | (rw [decide_eq_true (p := i + 1 < hI σ 49 s) (by omega), decide_eq_true h32] at hQ; exact hQ) | (rw [decide_eq_true (p := i + 1 < hI σ 49 s) (by omega), decide_eq_false h32, decide_eq_true h56] at hQ; exact hQ) | (rw [decide_eq_true (p := i + 1 < hI σ 49 s) (by omega), decide_eq_false h32, decide_eq_false h56] at hQ; exact hQ))
  · refine j_aload_n (p2 := 13) dS_isPeak_12 rfl rfl ?_
    refine j_iload_n (p2 := 14) dS_isPeak_13 rfl rfl ?_
    refine j_iload_n (p2 := 15) dS_isPeak_14 rfl rfl ?_
    refine j_callV (m' := mS_at) (As := [_, _]) (p2 := 18) dS_isPeak_15 rfl ml_S_39 ok_mS_at im_mS_at se_mS_at rfl rfl (Nat.le_of_ble_eq_true rfl) ly_47 rfl (Nat.le_of_ble_eq_true rfl) ⟨(Nat.le_of_ble_eq_true rfl), (Nat.le_of_ble_eq_true rfl)⟩ ?_
    refine cS_at hs (by omega) ?_
    refine j_callS (m' := mS_rank) (As := [_]) (p2 := 21) dS_isPeak_18 rfl ml_S_43 ok_mS_rank sm_mS_rank rfl rfl (Nat.le_of_ble_eq_true rfl) (Nat.le_of_ble_eq_true rfl) ⟨(Nat.le_of_ble_eq_true rfl), (Nat.le_of_ble_eq_true rfl)⟩ ?_
    refine cS_rank ?_
    refine j_aload_n (p2 := 22) dS_isPeak_21 rfl rfl ?_
    refine j_iload_n (p2 := 23) dS_isPeak_22 rfl rfl ?_
    refine j_iload_n (p2 := 24) dS_isPeak_23 rfl rfl ?_
    refine j_iconst (p2 := 25) dS_isPeak_24 rfl ?_
    refine j_isub (p2 := 26) dS_isPeak_25 rfl ?_
    refine j_callV (m' := mS_at) (As := [_, _]) (p2 := 29) dS_isPeak_26 rfl ml_S_39 ok_mS_at im_mS_at se_mS_at rfl rfl (Nat.le_of_ble_eq_true rfl) ly_47 rfl (Nat.le_of_ble_eq_true rfl) ⟨(Nat.le_of_ble_eq_true rfl), (Nat.le_of_ble_eq_true rfl)⟩ ?_
    refine cS_at hs (by omega) ?_
    refine j_callS (m' := mS_rank) (As := [_]) (p2 := 32) dS_isPeak_29 rfl ml_S_43 ok_mS_rank sm_mS_rank rfl rfl (Nat.le_of_ble_eq_true rfl) (Nat.le_of_ble_eq_true rfl) ⟨(Nat.le_of_ble_eq_true rfl), (Nat.le_of_ble_eq_true rfl)⟩ ?_
    refine cS_rank ?_
    refine j_lcmp_le (p1 := 33) (p2 := 36) (tg := 64) dS_isPeak_32 rfl dS_isPeak_33 rfl (by decide) (fun h32 => ?_) (fun h32 => ?_)
    · refine j_iconst (p2 := 65) dS_isPeak_64 rfl ?_
      refine j_zreturn dS_isPeak_65 rfl (by first | exact Or.inl rfl | exact Or.inr rfl | exact bI_or _ | omega) (by first | (rw [decide_eq_false (p := i + 1 < hI σ 49 s) (by omega)] at hQ; exact hQ) | (rw [decide_eq_true (p := i + 1 < hI σ 49 s) (by omega), decide_eq_true h32] at hQ; exact hQ) | (rw [decide_eq_true (p := i + 1 < hI σ 49 s) (by omega), decide_eq_false h32, decide_eq_true h56] at hQ; exact hQ) | (rw [decide_eq_true (p := i + 1 < hI σ 49 s) (by omega), decide_eq_false h32, decide_eq_false h56] at hQ; exact hQ))
    · refine j_aload_n (p2 := 37) dS_isPeak_36 rfl rfl ?_
      refine j_iload_n (p2 := 38) dS_isPeak_37 rfl rfl ?_
      refine j_iload_n (p2 := 39) dS_isPeak_38 rfl rfl ?_
      refine j_callV (m' := mS_at) (As := [_, _]) (p2 := 42) dS_isPeak_39 rfl ml_S_39 ok_mS_at im_mS_at se_mS_at rfl rfl (Nat.le_of_ble_eq_true rfl) ly_47 rfl (Nat.le_of_ble_eq_true rfl) ⟨(Nat.le_of_ble_eq_true rfl), (Nat.le_of_ble_eq_true rfl)⟩ ?_
      refine cS_at hs (by omega) ?_
      refine j_callS (m' := mS_rank) (As := [_]) (p2 := 45) dS_isPeak_42 rfl ml_S_43 ok_mS_rank sm_mS_rank rfl rfl (Nat.le_of_ble_eq_true rfl) (Nat.le_of_ble_eq_true rfl) ⟨(Nat.le_of_ble_eq_true rfl), (Nat.le_of_ble_eq_true rfl)⟩ ?_
      refine cS_rank ?_
      refine j_aload_n (p2 := 46) dS_isPeak_45 rfl rfl ?_
      refine j_iload_n (p2 := 47) dS_isPeak_46 rfl rfl ?_
      refine j_iload_n (p2 := 48) dS_isPeak_47 rfl rfl ?_
      refine j_iconst (p2 := 49) dS_isPeak_48 rfl ?_
      refine j_iadd (p2 := 50) dS_isPeak_49 rfl ?_
      refine j_callV (m' := mS_at) (As := [_, _]) (p2 := 53) dS_isPeak_50 rfl ml_S_39 ok_mS_at im_mS_at se_mS_at rfl rfl (Nat.le_of_ble_eq_true rfl) ly_47 rfl (Nat.le_of_ble_eq_true rfl) ⟨(Nat.le_of_ble_eq_true rfl), (Nat.le_of_ble_eq_true rfl)⟩ ?_
      refine cS_at hs (by omega) ?_
      refine j_callS (m' := mS_rank) (As := [_]) (p2 := 56) dS_isPeak_53 rfl ml_S_43 ok_mS_rank sm_mS_rank rfl rfl (Nat.le_of_ble_eq_true rfl) (Nat.le_of_ble_eq_true rfl) ⟨(Nat.le_of_ble_eq_true rfl), (Nat.le_of_ble_eq_true rfl)⟩ ?_
      refine cS_rank ?_
      refine j_lcmp_lt (p1 := 57) (p2 := 60) (tg := 64) dS_isPeak_56 rfl dS_isPeak_57 rfl (by decide) (fun h56 => ?_) (fun h56 => ?_)
      · refine j_iconst (p2 := 65) dS_isPeak_64 rfl ?_
        refine j_zreturn dS_isPeak_65 rfl (by first | exact Or.inl rfl | exact Or.inr rfl | exact bI_or _ | omega) (by first | (rw [decide_eq_false (p := i + 1 < hI σ 49 s) (by omega)] at hQ; exact hQ) | (rw [decide_eq_true (p := i + 1 < hI σ 49 s) (by omega), decide_eq_true h32] at hQ; exact hQ) | (rw [decide_eq_true (p := i + 1 < hI σ 49 s) (by omega), decide_eq_false h32, decide_eq_true h56] at hQ; exact hQ) | (rw [decide_eq_true (p := i + 1 < hI σ 49 s) (by omega), decide_eq_false h32, decide_eq_false h56] at hQ; exact hQ))
      · refine j_iconst (p2 := 61) dS_isPeak_60 rfl ?_
        refine j_goto (p2 := 65) dS_isPeak_61 (by decide) ?_
        refine j_zreturn dS_isPeak_65 rfl (by first | exact Or.inl rfl | exact Or.inr rfl | exact bI_or _ | omega) (by first | (rw [decide_eq_false (p := i + 1 < hI σ 49 s) (by omega)] at hQ; exact hQ) | (rw [decide_eq_true (p := i + 1 < hI σ 49 s) (by omega), decide_eq_true h32] at hQ; exact hQ) | (rw [decide_eq_true (p := i + 1 < hI σ 49 s) (by omega), decide_eq_false h32, decide_eq_true h56] at hQ; exact hQ) | (rw [decide_eq_true (p := i + 1 < hI σ 49 s) (by omega), decide_eq_false h32, decide_eq_false h56] at hQ; exact hQ))
theorem cS_place {s k b : Int} (hs : 0 ≤ s ∧ s < 6) (hl : 0 ≤ hI σ 49 s ∧ hI σ 49 s ≤ 120) (hk : inR k) (hb : b = 0 ∨ b = 1) (hQ : Q (some (vI (plc (fun i => if b = 0 then crL (hL σ 50) s i else pkL (hL σ 50) (hI σ 49 s) s i) k (hI σ 49 s - 1).toNat 1 0))) σ) : Sp mS_place [vR 47, vI s, vI k, vI b] σ Q := by
  obtain ⟨P, hP⟩ : ∃ P : Int → Bool, P = fun i => if b = 0 then crL (hL σ 50) s i else pkL (hL σ 50) (hI σ 49 s) s i := ⟨_, rfl⟩
  rw [← hP] at hQ
  have P0 : ∀ i, b = 0 → P i = crL (hL σ 50) s i := fun i h => by rw [hP]; exact if_pos h
  have P1 : ∀ i, ¬ b = 0 → P i = pkL (hL σ 50) (hI σ 49 s) s i := fun i h => by rw [hP]; exact if_neg h
  have loop : ∀ (f i n : Nat), 1 ≤ i → (f : Int) = (if (i : Int) ≤ hI σ 49 s then hI σ 49 s - i else 0) → n ≤ i → i ≤ 120 → Q (some (vI (plc P k f i n))) σ → J mS_place 6 [(0, vR 47), (1, vI s), (2, vI k), (3, vI b), (4, vI n), (5, vI i)] [] σ Q := by
    intro f
    induction f with
    | zero =>
      intro i n h3 h4 h5 h6 hq
      have h7 : hI σ 49 s ≤ i := by
        by_cases c : (i : Int) ≤ hI σ 49 s
        · rw [if_pos c] at h4; omega
        · omega
      refine j_iload (p2 := 8) dS_place_6 rfl rfl ?_
      refine j_aload_n (p2 := 9) dS_place_8 rfl rfl ?_
      refine j_getR (p2 := 12) dS_place_9 rfl fa_S_15 ly_47 rfl ?_
      refine j_iload_n (p2 := 13) dS_place_12 rfl rfl ?_
      refine j_iald (p2 := 14) dS_place_13 rfl ly_49 (by decide) (by omega) (by omega) ?_
      refine j_icmp_ge (p2 := 17) (tg := 62) dS_place_14 rfl (by decide) (by constructor <;> omega) (by constructor <;> omega) (fun h14 => ?_) (fun h14 => ?_)
      · refine j_iconst (p2 := 63) dS_place_62 rfl ?_
        refine j_ireturn dS_place_63 rfl (by exact hq)
      · refine J.loc (lv' := [(0, _), (1, _), (2, _), (3, _), (4, _), (5, _)]) ⟨rfl, rfl, rfl, rfl, rfl, rfl, trivial⟩ ?_
        exfalso
        omega
    | succ f ih =>
      intro i n h3 h4 h5 h6 hq
      have h7 : (i : Int) < hI σ 49 s ∧ (f : Int) = hI σ 49 s - i - 1 := by
        by_cases c : (i : Int) ≤ hI σ 49 s
        · rw [if_pos c] at h4; omega
        · rw [if_neg c] at h4; omega
      have h8 : (f : Int) = (if ((i + 1 : Nat) : Int) ≤ hI σ 49 s then hI σ 49 s - ((i + 1 : Nat) : Int) else 0) := by rw [if_pos (by omega)]; omega
      have no : P i = false → J mS_place 6 [(0, vR 47), (1, vI s), (2, vI k), (3, vI b), (4, vI n), (5, vI (i + 1))] [] σ Q := fun g => by
        have e : plc P k (f + 1) i n = plc P k f (i + 1) n := if_neg (by rw [g]; decide)
        rw [e] at hq
        exact ih (i + 1) n (by omega) h8 (by omega) (by omega) hq
      have yes : P i = true → J mS_place 44 [(0, vR 47), (1, vI s), (2, vI k), (3, vI b), (4, vI n), (5, vI i)] [] σ Q := fun g => by
        have e : plc P k (f + 1) i n = (if (n : Int) = k then (i : Int) else plc P k f (i + 1) (n + 1)) := if_pos g
        rw [e] at hq
        refine j_iload (p2 := 46) dS_place_44 rfl rfl ?_
        refine j_iload_n (p2 := 47) dS_place_46 rfl rfl ?_
        refine j_icmp_ne (p2 := 50) (tg := 53) dS_place_47 rfl (by decide) (by constructor <;> omega) (by constructor <;> omega) (fun h47 => ?_) (fun h47 => ?_)
        · refine j_iinc (p2 := 56) (lv' := [(0, _), (1, _), (2, _), (3, _), (4, _), (5, _)]) dS_place_53 rfl (Nat.le_of_ble_eq_true rfl) rfl ⟨rfl, rfl, rfl, rfl, rfl, rfl, trivial⟩ ?_
          refine j_iinc (p2 := 59) (lv' := [(0, _), (1, _), (2, _), (3, _), (4, _), (5, _)]) dS_place_56 rfl (Nat.le_of_ble_eq_true rfl) rfl ⟨rfl, rfl, rfl, rfl, rfl, rfl, trivial⟩ ?_
          refine j_goto (p2 := 6) dS_place_59 (by decide) ?_
          refine J.loc (lv' := [(0, _), (1, _), (2, _), (3, _), (4, _), (5, _)]) ⟨rfl, rfl, rfl, rfl, rfl, rfl, trivial⟩ ?_
          rw [if_neg h47] at hq
          exact ih (i + 1) (n + 1) (by omega) h8 (by omega) (by omega) hq
        · refine j_iload (p2 := 52) dS_place_50 rfl rfl ?_
          refine j_ireturn dS_place_52 rfl (by rw [if_pos h47] at hq; exact hq)
      refine j_iload (p2 := 8) dS_place_6 rfl rfl ?_
      refine j_aload_n (p2 := 9) dS_place_8 rfl rfl ?_
      refine j_getR (p2 := 12) dS_place_9 rfl fa_S_15 ly_47 rfl ?_
      refine j_iload_n (p2 := 13) dS_place_12 rfl rfl ?_
      refine j_iald (p2 := 14) dS_place_13 rfl ly_49 (by decide) (by omega) (by omega) ?_
      refine j_icmp_ge (p2 := 17) (tg := 62) dS_place_14 rfl (by decide) (by constructor <;> omega) (by constructor <;> omega) (fun h14 => ?_) (fun h14 => ?_)
      · refine j_iconst (p2 := 63) dS_place_62 rfl ?_
        refine j_ireturn dS_place_63 rfl (by exfalso; omega)
      · refine j_iload_n (p2 := 18) dS_place_17 rfl rfl ?_
        refine j_if_eq (p2 := 21) (tg := 34) dS_place_18 rfl (by decide) (by constructor <;> omega) (fun h18 => ?_) (fun h18 => ?_)
        · refine j_aload_n (p2 := 35) dS_place_34 rfl rfl ?_
          refine j_iload_n (p2 := 36) dS_place_35 rfl rfl ?_
          refine j_iload (p2 := 38) dS_place_36 rfl rfl ?_
          refine j_callV (m' := mS_isCrossing) (As := [_, _]) (p2 := 41) dS_place_38 rfl ml_S_36 ok_mS_isCrossing im_mS_isCrossing se_mS_isCrossing rfl rfl (Nat.le_of_ble_eq_true rfl) ly_47 rfl (Nat.le_of_ble_eq_true rfl) ⟨(Nat.le_of_ble_eq_true rfl), (Nat.le_of_ble_eq_true rfl)⟩ ?_
          refine cS_isCrossing hs (by omega) ?_
          rw [← P0 _ h18]
          refine j_ifb_eq (p2 := 44) (tg := 56) dS_place_41 rfl (by decide) (fun h41 => ?_) (fun h41 => ?_)
          · refine j_iinc (p2 := 59) (lv' := [(0, _), (1, _), (2, _), (3, _), (4, _), (5, _)]) dS_place_56 rfl (Nat.le_of_ble_eq_true rfl) rfl ⟨rfl, rfl, rfl, rfl, rfl, rfl, trivial⟩ ?_
            refine j_goto (p2 := 6) dS_place_59 (by decide) ?_
            refine J.loc (lv' := [(0, _), (1, _), (2, _), (3, _), (4, _), (5, _)]) ⟨rfl, rfl, rfl, rfl, rfl, rfl, trivial⟩ ?_
            first
              | (have g : P i = false := h28
                 exact no g)
              | (have g : P i = false := h41
                 exact no g)
          · refine J.loc (lv' := [(0, _), (1, _), (2, _), (3, _), (4, _), (5, _)]) ⟨rfl, rfl, rfl, rfl, rfl, rfl, trivial⟩ ?_
            first
              | (have g : P i = true := h28
                 exact yes g)
              | (have g : P i = true := h41
                 exact yes g)
        · refine j_aload_n (p2 := 22) dS_place_21 rfl rfl ?_
          refine j_iload_n (p2 := 23) dS_place_22 rfl rfl ?_
          refine j_iload (p2 := 25) dS_place_23 rfl rfl ?_
          refine j_callV (m' := mS_isPeak) (As := [_, _]) (p2 := 28) dS_place_25 rfl ml_S_32 ok_mS_isPeak im_mS_isPeak se_mS_isPeak rfl rfl (Nat.le_of_ble_eq_true rfl) ly_47 rfl (Nat.le_of_ble_eq_true rfl) ⟨(Nat.le_of_ble_eq_true rfl), (Nat.le_of_ble_eq_true rfl)⟩ ?_
          refine cS_isPeak hs hl (by omega) ?_
          rw [← P1 _ h18]
          refine j_ifb_eq (p2 := 31) (tg := 56) dS_place_28 rfl (by decide) (fun h28 => ?_) (fun h28 => ?_)
          · refine j_iinc (p2 := 59) (lv' := [(0, _), (1, _), (2, _), (3, _), (4, _), (5, _)]) dS_place_56 rfl (Nat.le_of_ble_eq_true rfl) rfl ⟨rfl, rfl, rfl, rfl, rfl, rfl, trivial⟩ ?_
            refine j_goto (p2 := 6) dS_place_59 (by decide) ?_
            refine J.loc (lv' := [(0, _), (1, _), (2, _), (3, _), (4, _), (5, _)]) ⟨rfl, rfl, rfl, rfl, rfl, rfl, trivial⟩ ?_
            first
              | (have g : P i = false := h28
                 exact no g)
              | (have g : P i = false := h41
                 exact no g)
          · refine j_goto (p2 := 44) dS_place_31 (by decide) ?_
            refine J.loc (lv' := [(0, _), (1, _), (2, _), (3, _), (4, _), (5, _)]) ⟨rfl, rfl, rfl, rfl, rfl, rfl, trivial⟩ ?_
            first
              | (have g : P i = true := h28
                 exact yes g)
              | (have g : P i = true := h41
                 exact yes g)
  refine j_iconst (p2 := 1) dS_place_0 rfl ?_
  refine j_istore (p2 := 3) (lv' := [(0, _), (1, _), (2, _), (3, _), (4, _)]) dS_place_1 rfl (Nat.le_of_ble_eq_true rfl) ⟨rfl, rfl, rfl, rfl, rfl, trivial⟩ ?_
  refine j_iconst (p2 := 4) dS_place_3 rfl ?_
  refine j_istore (p2 := 6) (lv' := [(0, _), (1, _), (2, _), (3, _), (4, _), (5, _)]) dS_place_4 rfl (Nat.le_of_ble_eq_true rfl) ⟨rfl, rfl, rfl, rfl, rfl, rfl, trivial⟩ ?_
  refine J.loc (lv' := [(0, _), (1, _), (2, _), (3, _), (4, _), (5, _)]) ⟨rfl, rfl, rfl, rfl, rfl, rfl, trivial⟩ ?_
  refine loop (hI σ 49 s - 1).toNat 1 0 (by omega) ?_ (by omega) (by omega) hQ
  by_cases c : ((1 : Nat) : Int) ≤ hI σ 49 s
  · rw [if_pos c]; omega
  · rw [if_neg c]; omega
end STRP
