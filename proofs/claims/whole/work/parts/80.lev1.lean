/-! ===== the class's levels: masks ===== -/
theorem tb_iff (M s : Nat) : M.testBit s = true ↔ M / 2 ^ s % 2 = 1 := by
  rw [Nat.testBit_eq_decide_div_mod_eq, decide_eq_true_iff]
/-- a bit, as the code asks for it -/
theorem bit_iff {M s : Nat} (hM : M < 2 ^ 31) (hs : s < 32) : jiand (jishr (M : Int) (s : Int)) 1 = 0 ↔ ¬ M.testBit s = true := by
  rw [i_bit hM hs, tb_iff]
  have := Nat.mod_lt (M / 2 ^ s) (show 0 < 2 by decide)
  generalize M / 2 ^ s % 2 = x at *
  omega
theorem bit_inR {M s : Nat} (hM : M < 2 ^ 31) (hs : s < 32) : inR (jiand (jishr (M : Int) (s : Int)) 1) := by
  rw [i_bit hM hs]
  have := Nat.mod_lt (M / 2 ^ s) (show 0 < 2 by decide)
  generalize M / 2 ^ s % 2 = x at *
  constructor <;> omega
/-- the mask M holds just the sources of m -/
def MskS (kd fr : Int → Int) (m : Int) (M : Nat) : Prop := M < 2 ^ 20 ∧ ∀ s : Nat, M.testBit s = true ↔ srcM kd fr m s
section LEV1
variable {σ : Hp} {Q : Option PV → Hp → Prop}
theorem cV_sourcesOf {fr : Int → Int} {N : Nat} {m : Int} (hc : CtI σ fr N) (hm : 0 ≤ m ∧ m < N) (hr : ¬ rem (hI σ 4 m)) (hQ : ∀ M, MskS (hI σ 4) fr m M → Q (some (vI (M : Nat))) σ) : Sp mV_sourcesOf [vR 15, vI m] σ Q := by
  have hN2 := hc.2.1
  have loop : ∀ (n i M : Nat), i ≤ 6 → 7 ≤ i + n → M < 2 ^ 20 → (∀ s : Nat, M.testBit s = true ↔ ∃ j : Int, 0 ≤ j ∧ j < i ∧ ¬ fr (6 * m + j) = -1 ∧ fr (6 * m + j) = s) → J mV_sourcesOf 7 [(0, vR 15), (1, vI m), (2, vI (M : Nat)), (3, vI (m * 6 + i))] [] σ Q := by
    intro n
    induction n with
    | zero => intro i M h1 h2; exact absurd h2 (by omega)
    | succ n ih =>
      intro i M h1 h2 hM hb
      have cb : i < 6 → hI σ 9 (m * 6 + i) = fr (6 * m + i) ∧ (-1 ≤ fr (6 * m + i) ∧ fr (6 * m + i) < N) := fun h => ⟨(hc.2.2.2 m i hm.1 hm.2 (by omega) (by omega)).1, (hc.2.2.2 m i hm.1 hm.2 (by omega) (by omega)).2.1⟩
      have b9 : i < 6 → -1 ≤ hI σ 9 (m * 6 + i) ∧ hI σ 9 (m * 6 + i) < N := fun h => by rw [(cb h).1]; exact (cb h).2
      have ei : m * 6 + ((i + 1 : Nat) : Int) = m * 6 + i + 1 := by omega
      have k0 : i < 6 → hI σ 9 (m * 6 + i) = -1 → J mV_sourcesOf 7 [(0, vR 15), (1, vI m), (2, vI (M : Nat)), (3, vI (m * 6 + i + 1))] [] σ Q := fun hi g => by
        have := ih (i + 1) M (by omega) (by omega) hM (fun s => by
          rw [hb s]
          constructor
          · rintro ⟨j, a, b, c, d⟩; exact ⟨j, a, by omega, c, d⟩
          · rintro ⟨j, a, b, c, d⟩
            by_cases e : j = i
            · subst e; rw [(cb hi).1] at g; exact absurd g c
            · exact ⟨j, a, by omega, c, d⟩)
        rw [ei] at this; exact this
      have k1 : i < 6 → ¬ hI σ 9 (m * 6 + i) = -1 → J mV_sourcesOf 7 [(0, vR 15), (1, vI m), (2, vI (jior (M : Int) (jishl 1 (hI σ 9 (m * 6 + i))))), (3, vI (m * 6 + i + 1))] [] σ Q := fun hi g => by
        have hb9 := b9 hi
        obtain ⟨x, hx⟩ : ∃ x : Nat, hI σ 9 (m * 6 + i) = x := ⟨(hI σ 9 (m * 6 + i)).toNat, by omega⟩
        have hx20 : x < 20 := by omega
        have p20 : 2 ^ x < 2 ^ 20 := Nat.pow_lt_pow_right (by decide) hx20
        rw [hx, i_sl x (by omega), i_or (by omega) (by omega)]
        have := ih (i + 1) (M ||| 2 ^ x) (by omega) (by omega) (Nat.or_lt_two_pow hM p20) (fun s => by
          rw [Nat.testBit_or, Bool.or_eq_true, hb s, Nat.testBit_two_pow]
          constructor
          · intro h
            rcases h with ⟨j, a, b, c, d⟩ | h
            · exact ⟨j, a, by omega, c, d⟩
            · have e := of_decide_eq_true h
              exact ⟨i, by omega, by omega, by rw [← (cb hi).1]; exact g, by rw [← (cb hi).1, hx]; omega⟩
          · rintro ⟨j, a, b, c, d⟩
            by_cases e : j = i
            · right
              rw [e, ← (cb hi).1, hx] at d
              exact decide_eq_true (by omega)
            · exact Or.inl ⟨j, a, by omega, c, d⟩)
        rw [ei] at this; exact this
      have fin : i = 6 → Q (some (vI (M : Nat))) σ := fun e => by
        subst e
        refine hQ M ⟨hM, fun s => ?_⟩
        rw [hb s]
        constructor
        · rintro ⟨j, a, b, c, d⟩; exact ⟨hr, j, a, b, c, d⟩
        · rintro ⟨_, j, a, b, c, d⟩; exact ⟨j, a, b, c, d⟩
      refine j_iload_n (p2 := 8) dV_sourcesOf_7 rfl rfl ?_
      refine j_iload_n (p2 := 9) dV_sourcesOf_8 rfl rfl ?_
      refine j_iconst (p2 := 10) dV_sourcesOf_9 rfl ?_
      refine j_iadd (p2 := 11) dV_sourcesOf_10 rfl ?_
      refine j_bipush (v := 6) (p2 := 13) dV_sourcesOf_11 rfl rfl ?_
      refine j_imul (p2 := 14) dV_sourcesOf_13 rfl ?_
      refine j_icmp_ge (p2 := 17) (tg := 50) dV_sourcesOf_14 rfl (by decide) (by constructor <;> omega) (by constructor <;> omega) (fun h14 => ?_) (fun h14 => ?_)
      · refine j_iload_n (p2 := 51) dV_sourcesOf_50 rfl rfl ?_
        refine j_ireturn dV_sourcesOf_51 rfl (by exact fin (by omega))
      · refine j_aload_n (p2 := 18) dV_sourcesOf_17 rfl rfl ?_
        refine j_getR (p2 := 21) dV_sourcesOf_18 rfl fa_V_21 ly_15 rfl ?_
        refine j_getR (p2 := 24) dV_sourcesOf_21 rfl fa_V_52 ly_3 rfl ?_
        refine j_iload_n (p2 := 25) dV_sourcesOf_24 rfl rfl ?_
        refine j_iald (p2 := 26) dV_sourcesOf_25 rfl ly_9 (by decide) (by omega) (by omega) ?_
        refine j_iconst (p2 := 27) dV_sourcesOf_26 rfl ?_
        refine j_icmp_eq (p2 := 30) (tg := 44) dV_sourcesOf_27 rfl (by decide) (by have := b9 (by omega); constructor <;> omega) (by constructor <;> omega) (fun h27 => ?_) (fun h27 => ?_)
        · refine j_iinc (p2 := 47) (lv' := [(0, _), (1, _), (2, _), (3, _)]) dV_sourcesOf_44 rfl (Nat.le_of_ble_eq_true rfl) rfl ⟨rfl, rfl, rfl, rfl, trivial⟩ ?_
          refine j_goto (p2 := 7) dV_sourcesOf_47 (by decide) ?_
          refine J.loc (lv' := [(0, _), (1, _), (2, _), (3, _)]) ⟨rfl, rfl, rfl, rfl, trivial⟩ ?_
          first
            | (have g : hI σ 9 (m * 6 + i) = -1 := h27
               exact k0 (by omega) g)
            | (have g : ¬ hI σ 9 (m * 6 + i) = -1 := h27
               exact k1 (by omega) g)
        · refine j_iload_n (p2 := 31) dV_sourcesOf_30 rfl rfl ?_
          refine j_iconst (p2 := 32) dV_sourcesOf_31 rfl ?_
          refine j_aload_n (p2 := 33) dV_sourcesOf_32 rfl rfl ?_
          refine j_getR (p2 := 36) dV_sourcesOf_33 rfl fa_V_21 ly_15 rfl ?_
          refine j_getR (p2 := 39) dV_sourcesOf_36 rfl fa_V_52 ly_3 rfl ?_
          refine j_iload_n (p2 := 40) dV_sourcesOf_39 rfl rfl ?_
          refine j_iald (p2 := 41) dV_sourcesOf_40 rfl ly_9 (by decide) (by omega) (by omega) ?_
          refine j_ishl (p2 := 42) dV_sourcesOf_41 rfl ?_
          refine j_ior (p2 := 43) dV_sourcesOf_42 rfl ?_
          refine j_istore_n (p2 := 44) (lv' := [(0, _), (1, _), (2, _), (3, _)]) dV_sourcesOf_43 rfl (Nat.le_of_ble_eq_true rfl) ⟨rfl, rfl, rfl, rfl, trivial⟩ ?_
          refine j_iinc (p2 := 47) (lv' := [(0, _), (1, _), (2, _), (3, _)]) dV_sourcesOf_44 rfl (Nat.le_of_ble_eq_true rfl) rfl ⟨rfl, rfl, rfl, rfl, trivial⟩ ?_
          refine j_goto (p2 := 7) dV_sourcesOf_47 (by decide) ?_
          refine J.loc (lv' := [(0, _), (1, _), (2, _), (3, _)]) ⟨rfl, rfl, rfl, rfl, trivial⟩ ?_
          first
            | (have g : hI σ 9 (m * 6 + i) = -1 := h27
               exact k0 (by omega) g)
            | (have g : ¬ hI σ 9 (m * 6 + i) = -1 := h27
               exact k1 (by omega) g)
  have start := loop 7 0 0 (by omega) (by omega) (by decide) (fun s => by
    rw [Nat.zero_testBit]
    constructor
    · intro h; cases h
    · rintro ⟨j, a, b, _⟩; omega)
  have e0 : m * 6 + ((0 : Nat) : Int) = m * 6 := Int.add_zero _
  rw [e0] at start
  refine j_iconst (p2 := 1) dV_sourcesOf_0 rfl ?_
  refine j_istore_n (p2 := 2) (lv' := [(0, _), (1, _), (2, _)]) dV_sourcesOf_1 rfl (Nat.le_of_ble_eq_true rfl) ⟨rfl, rfl, rfl, trivial⟩ ?_
  refine j_iload_n (p2 := 3) dV_sourcesOf_2 rfl rfl ?_
  refine j_bipush (v := 6) (p2 := 5) dV_sourcesOf_3 rfl rfl ?_
  refine j_imul (p2 := 6) dV_sourcesOf_5 rfl ?_
  refine j_istore_n (p2 := 7) (lv' := [(0, _), (1, _), (2, _), (3, _)]) dV_sourcesOf_6 rfl (Nat.le_of_ble_eq_true rfl) ⟨rfl, rfl, rfl, rfl, trivial⟩ ?_
  refine J.loc (lv' := [(0, _), (1, _), (2, _), (3, _)]) ⟨rfl, rfl, rfl, rfl, trivial⟩ ?_
  exact start
/-- g is the greatest level of those in p, or 0 -/
def IsMx (p : Int → Prop) (lv : Int → Int) (g : Int) : Prop := 0 ≤ g ∧ (∀ s, p s → lv s ≤ g) ∧ (g = 0 ∨ ∃ s, p s ∧ lv s = g)
theorem IsMx.uniq {p : Int → Prop} {lv : Int → Int} {a b : Int} (h1 : IsMx p lv a) (h2 : IsMx p lv b) : a = b := by
  obtain ⟨a1, a2, a3⟩ := h1
  obtain ⟨b1, b2, b3⟩ := h2
  rcases a3 with e | ⟨s, hs, e⟩
  · rcases b3 with f | ⟨t, ht, f⟩
    · omega
    · have := a2 t ht; omega
  · have := b2 s hs
    rcases b3 with f | ⟨t, ht, f⟩
    · omega
    · have := a2 t ht; omega
theorem lvI_mx {fr lv : Int → Int} {m : Int} : ∀ n : Nat, (lvI fr lv m n).2 = true → (∀ s, (∃ j : Int, 0 ≤ j ∧ j < n ∧ ¬ fr (6 * m + j) = -1 ∧ fr (6 * m + j) = s) → -1 ≤ lv s) → IsMx (fun s => ∃ j : Int, 0 ≤ j ∧ j < n ∧ ¬ fr (6 * m + j) = -1 ∧ fr (6 * m + j) = s) lv (lvI fr lv m n).1
  | 0, _, _ => ⟨Int.le_refl 0, fun s h => by obtain ⟨j, a, b, _⟩ := h; omega, Or.inl rfl⟩
  | n + 1, h, hb => by
    have hb2 : ∀ s, (∃ j : Int, 0 ≤ j ∧ j < n ∧ ¬ fr (6 * m + j) = -1 ∧ fr (6 * m + j) = s) → -1 ≤ lv s := fun s ⟨j, a, b, c, d⟩ => hb s ⟨j, a, by omega, c, d⟩
    by_cases e : fr (6 * m + (n : Int)) = -1
    · have e1 : lvI fr lv m (n + 1) = lvI fr lv m n := if_pos e
      rw [e1] at h ⊢
      obtain ⟨i1, i2, i3⟩ := lvI_mx n h hb2
      refine ⟨i1, fun s hs => ?_, ?_⟩
      · obtain ⟨j, a, b, c, d⟩ := hs
        by_cases ej : j = n
        · subst ej; exact absurd e c
        · exact i2 s ⟨j, a, by omega, c, d⟩
      · rcases i3 with i3 | ⟨s, ⟨j, a, b, c, d⟩, i4⟩
        · exact Or.inl i3
        · exact Or.inr ⟨s, ⟨j, a, by omega, c, d⟩, i4⟩
    · have e1 : lvI fr lv m (n + 1) = (if lv (fr (6 * m + (n : Int))) > (lvI fr lv m n).1 then lv (fr (6 * m + (n : Int))) else (lvI fr lv m n).1, (lvI fr lv m n).2 && decide (¬ lv (fr (6 * m + (n : Int))) = -1)) := if_neg e
      rw [e1] at h ⊢
      have h2 : ((lvI fr lv m n).2 && decide (¬ lv (fr (6 * m + (n : Int))) = -1)) = true := h
      rw [Bool.and_eq_true] at h2
      obtain ⟨i1, i2, i3⟩ := lvI_mx n h2.1 hb2
      show IsMx _ lv (if lv (fr (6 * m + (n : Int))) > (lvI fr lv m n).1 then lv (fr (6 * m + (n : Int))) else (lvI fr lv m n).1)
      refine ⟨by split <;> omega, fun s hs => ?_, ?_⟩
      · obtain ⟨j, a, b, c, d⟩ := hs
        by_cases ej : j = n
        · subst ej; rw [← d]; split <;> omega
        · have := i2 s ⟨j, a, by omega, c, d⟩
          split <;> omega
      · by_cases g : lv (fr (6 * m + (n : Int))) > (lvI fr lv m n).1
        · rw [if_pos g]
          exact Or.inr ⟨_, ⟨n, by omega, by omega, e, rfl⟩, rfl⟩
        · rw [if_neg g]
          rcases i3 with i3 | ⟨s, ⟨j, a, b, c, d⟩, i4⟩
          · exact Or.inl i3
          · exact Or.inr ⟨s, ⟨j, a, by omega, c, d⟩, i4⟩
theorem cV_levelBehindSources {kd fr : Int → Int} {N M : Nat} {m : Int} (hN : hI σ 3 0 = N ∧ N ≤ 20) (hm : 0 ≤ m ∧ m < N) (hr : ¬ rem (kd m)) (hc : CdN fr N) (hM : hI σ 18 m = M ∧ MskS kd fr m M) (hl : LvB (hI σ 16) N) (hQ : Q (some (vI (if (lvI fr (hI σ 16) m 6).2 = true then (lvI fr (hI σ 16) m 6).1 + 1 else -1))) σ) : Sp mV_levelBehindSources [vR 15, vI m] σ Q := by
  obtain ⟨hN, hN2⟩ := hN
  obtain ⟨hM1, hM2, hM3⟩ := hM
  have hcb := cnt_b (hI σ 16) N
  have sm : ∀ s : Int, 0 ≤ s → (M.testBit s.toNat = true ↔ ∃ j : Int, 0 ≤ j ∧ j < ((6 : Nat) : Int) ∧ ¬ fr (6 * m + j) = -1 ∧ fr (6 * m + j) = s) := fun s s0 => by
    rw [hM3, show ((s.toNat : Nat) : Int) = s by omega]
    constructor
    · rintro ⟨_, j, a, b, c, d⟩; exact ⟨j, a, by omega, c, d⟩
    · rintro ⟨j, a, b, c, d⟩; exact ⟨hr, j, a, by omega, c, d⟩
  have neg : ∀ i : Nat, i < N → M.testBit i = true → hI σ 16 i = -1 → Q (some (vI (-1))) σ := fun i hi hb g => by
    cases a : (lvI fr (hI σ 16) m 6).2 with
    | false => rw [a, if_neg (by decide)] at hQ; exact hQ
    | true =>
      exfalso
      obtain ⟨j, j0, j1, j2, j3⟩ := (sm i (by omega)).mp (by rw [Int.toNat_natCast]; exact hb)
      have := lvI_all 6 a j.toNat (by omega) (by rw [show ((j.toNat : Nat) : Int) = j by omega]; exact j2)
      rw [show ((j.toNat : Nat) : Int) = j by omega, j3] at this
      exact this.1 g
  have fin : ∀ g : Int, (∀ s : Int, 0 ≤ s → s < N → M.testBit s.toNat = true → ¬ hI σ 16 s = -1) → IsMx (fun s => (0 ≤ s ∧ s < N) ∧ M.testBit s.toNat = true) (hI σ 16) g → Q (some (vI (g + 1))) σ := fun g hno hmx => by
    cases a : (lvI fr (hI σ 16) m 6).2 with
    | false =>
      exfalso
      obtain ⟨j, j1, j2, j3⟩ := lvI_no 6 a
      have hcj := hc m hm.1 hm.2 j (by omega) (by omega)
      exact hno (fr (6 * m + (j : Int))) (by omega) (by omega) ((sm _ (by omega)).mpr ⟨j, by omega, by omega, j2, rfl⟩) j3
    | true =>
      rw [a, if_pos rfl] at hQ
      have mx := lvI_mx 6 a (fun s ⟨j, j0, j1, j2, j3⟩ => by
        have hcj := hc m hm.1 hm.2 j j0 (by omega)
        rw [j3] at hcj
        exact (hl s (by rw [← j3] at hcj ⊢; omega) (by omega)).1)
      have : g = (lvI fr (hI σ 16) m 6).1 := by
        refine IsMx.uniq hmx ⟨mx.1, fun s hs => mx.2.1 s ((sm s hs.1.1).mp hs.2), ?_⟩
        rcases mx.2.2 with z | ⟨s, hs, z⟩
        · exact Or.inl z
        · obtain ⟨j, j0, j1, j2, j3⟩ := hs
          have hcj := hc m hm.1 hm.2 j j0 (by omega)
          exact Or.inr ⟨s, ⟨by omega, (sm s (by omega)).mpr ⟨j, j0, j1, j2, j3⟩⟩, z⟩
      rw [this]; exact hQ
  have loop : ∀ (n i : Nat) (g : Int), i ≤ N → N + 1 ≤ i + n → g ≤ 20 → (∀ s : Int, 0 ≤ s → s < i → M.testBit s.toNat = true → ¬ hI σ 16 s = -1) → IsMx (fun s => (0 ≤ s ∧ s < i) ∧ M.testBit s.toNat = true) (hI σ 16) g → J mV_levelBehindSources 4 [(0, vR 15), (1, vI m), (2, vI g), (3, vI i)] [] σ Q := by
    intro n
    induction n with
    | zero => intro i g h1 h2; exact absurd h2 (by omega)
    | succ n ih =>
      intro i g h1 h2 hg hno hmx
      have hli : i < N → -1 ≤ hI σ 16 i ∧ hI σ 16 i ≤ 20 := fun h => by have := hl i (by omega) (by omega); omega
      have no : i < N → ¬ M.testBit i = true → J mV_levelBehindSources 4 [(0, vR 15), (1, vI m), (2, vI g), (3, vI (i + 1))] [] σ Q := fun hi hb => by
        refine ih (i + 1) g (by omega) (by omega) hg (fun s a b c => ?_) ⟨hmx.1, fun s hs => ?_, ?_⟩
        · by_cases e : s = i
          · subst e; rw [Int.toNat_natCast] at c; exact absurd c hb
          · exact hno s a (by omega) c
        · by_cases e : s = i
          · subst e; have := hs.2; rw [Int.toNat_natCast] at this; exact absurd this hb
          · exact hmx.2.1 s ⟨by omega, hs.2⟩
        · rcases hmx.2.2 with z | ⟨s, hs, z⟩
          · exact Or.inl z
          · exact Or.inr ⟨s, ⟨by omega, hs.2⟩, z⟩
      have yes : i < N → M.testBit i = true → ¬ hI σ 16 i = -1 → J mV_levelBehindSources 4 [(0, vR 15), (1, vI m), (2, vI (max g (hI σ 16 i))), (3, vI (i + 1))] [] σ Q := fun hi hb hn => by
        have hl2 := hli hi
        have h0 := hmx.1
        refine ih (i + 1) _ (by omega) (by omega) (by omega) (fun s a b c => ?_) ⟨by omega, fun s hs => ?_, ?_⟩
        · by_cases e : s = i
          · rw [e]; exact hn
          · exact hno s a (by omega) c
        · by_cases e : s = i
          · rw [e]; omega
          · have := hmx.2.1 s ⟨by omega, hs.2⟩; omega
        · by_cases q : hI σ 16 i ≤ g
          · rw [show max g (hI σ 16 i) = g by omega]
            rcases hmx.2.2 with z | ⟨s, hs, z⟩
            · exact Or.inl z
            · exact Or.inr ⟨s, ⟨by omega, hs.2⟩, z⟩
          · exact Or.inr ⟨i, ⟨by omega, by rw [Int.toNat_natCast]; exact hb⟩, by omega⟩
      have bt : i < N → (jiand (jishr (hI σ 18 m) (i : Int)) 1 = 0 ↔ ¬ M.testBit i = true) := fun h => by rw [hM1]; exact bit_iff (by omega) (by omega)
      have bi : i < N → inR (jiand (jishr (hI σ 18 m) (i : Int)) 1) := fun h => by rw [hM1]; exact bit_inR (by omega) (by omega)
      have h0 := hmx.1
      refine j_iload_n (p2 := 5) dV_levelBehindSources_4 rfl rfl ?_
      refine j_aload_n (p2 := 6) dV_levelBehindSources_5 rfl rfl ?_
      refine j_getR (p2 := 9) dV_levelBehindSources_6 rfl fa_V_21 ly_15 rfl ?_
      refine j_getIk (p2 := 12) dV_levelBehindSources_9 rfl fa_V_31 ly_3 rfl (ki := 0) rfl ?_
      refine j_icmp_ge (p2 := 15) (tg := 57) dV_levelBehindSources_12 rfl (by decide) (by constructor <;> omega) (by constructor <;> omega) (fun h12 => ?_) (fun h12 => ?_)
      · refine j_iload_n (p2 := 58) dV_levelBehindSources_57 rfl rfl ?_
        refine j_iconst (p2 := 59) dV_levelBehindSources_58 rfl ?_
        refine j_iadd (p2 := 60) dV_levelBehindSources_59 rfl ?_
        refine j_ireturn dV_levelBehindSources_60 rfl (by have e : i = N := (by omega); subst e; exact fin g hno hmx)
      · refine j_aload_n (p2 := 16) dV_levelBehindSources_15 rfl rfl ?_
        refine j_getR (p2 := 19) dV_levelBehindSources_16 rfl fa_V_18 ly_15 rfl ?_
        refine j_iload_n (p2 := 20) dV_levelBehindSources_19 rfl rfl ?_
        refine j_iald (p2 := 21) dV_levelBehindSources_20 rfl ly_18 (by decide) (by omega) (by omega) ?_
        refine j_iload_n (p2 := 22) dV_levelBehindSources_21 rfl rfl ?_
        refine j_ishr (p2 := 23) dV_levelBehindSources_22 rfl ?_
        refine j_iconst (p2 := 24) dV_levelBehindSources_23 rfl ?_
        refine j_iand (p2 := 25) dV_levelBehindSources_24 rfl ?_
        refine j_if_eq (p2 := 28) (tg := 51) dV_levelBehindSources_25 rfl (by decide) (bi (by omega)) (fun h25 => ?_) (fun h25 => ?_)
        · refine j_iinc (p2 := 54) (lv' := [(0, _), (1, _), (2, _), (3, _)]) dV_levelBehindSources_51 rfl (Nat.le_of_ble_eq_true rfl) rfl ⟨rfl, rfl, rfl, rfl, trivial⟩ ?_
          refine j_goto (p2 := 4) dV_levelBehindSources_54 (by decide) ?_
          refine J.loc (lv' := [(0, _), (1, _), (2, _), (3, _)]) ⟨rfl, rfl, rfl, rfl, trivial⟩ ?_
          first
            | (have q := (bt (by omega)).mp h25
               exact no (by omega) q)
            | (have q : M.testBit i = true := Classical.byContradiction (fun z => h25 ((bt (by omega)).mpr z))
               exact yes (by omega) q h35)
        · refine j_aload_n (p2 := 29) dV_levelBehindSources_28 rfl rfl ?_
          refine j_getR (p2 := 32) dV_levelBehindSources_29 rfl fa_V_9 ly_15 rfl ?_
          refine j_iload_n (p2 := 33) dV_levelBehindSources_32 rfl rfl ?_
          refine j_iald (p2 := 34) dV_levelBehindSources_33 rfl ly_16 (by decide) (by omega) (by omega) ?_
          refine j_iconst (p2 := 35) dV_levelBehindSources_34 rfl ?_
          refine j_icmp_ne (p2 := 38) (tg := 40) dV_levelBehindSources_35 rfl (by decide) (by have := hli (by omega); constructor <;> omega) (by constructor <;> omega) (fun h35 => ?_) (fun h35 => ?_)
          · refine j_iload_n (p2 := 41) dV_levelBehindSources_40 rfl rfl ?_
            refine j_aload_n (p2 := 42) dV_levelBehindSources_41 rfl rfl ?_
            refine j_getR (p2 := 45) dV_levelBehindSources_42 rfl fa_V_9 ly_15 rfl ?_
            refine j_iload_n (p2 := 46) dV_levelBehindSources_45 rfl rfl ?_
            refine j_iald (p2 := 47) dV_levelBehindSources_46 rfl ly_16 (by decide) (by omega) (by omega) ?_
            refine j_callS (m' := mJA_max) (As := [_, _]) (p2 := 50) dV_levelBehindSources_47 rfl ml_V_55 ok_mJA_max sm_mJA_max rfl rfl (Nat.le_of_ble_eq_true rfl) (Nat.le_of_ble_eq_true rfl) ⟨(Nat.le_of_ble_eq_true rfl), (Nat.le_of_ble_eq_true rfl)⟩ ?_
            refine cJA_max (by constructor <;> omega) (by have := hli (by omega); constructor <;> omega) ?_
            refine j_istore_n (p2 := 51) (lv' := [(0, _), (1, _), (2, _), (3, _)]) dV_levelBehindSources_50 rfl (Nat.le_of_ble_eq_true rfl) ⟨rfl, rfl, rfl, rfl, trivial⟩ ?_
            refine j_iinc (p2 := 54) (lv' := [(0, _), (1, _), (2, _), (3, _)]) dV_levelBehindSources_51 rfl (Nat.le_of_ble_eq_true rfl) rfl ⟨rfl, rfl, rfl, rfl, trivial⟩ ?_
            refine j_goto (p2 := 4) dV_levelBehindSources_54 (by decide) ?_
            refine J.loc (lv' := [(0, _), (1, _), (2, _), (3, _)]) ⟨rfl, rfl, rfl, rfl, trivial⟩ ?_
            first
              | (have q := (bt (by omega)).mp h25
                 exact no (by omega) q)
              | (have q : M.testBit i = true := Classical.byContradiction (fun z => h25 ((bt (by omega)).mpr z))
                 exact yes (by omega) q h35)
          · refine j_iconst (p2 := 39) dV_levelBehindSources_38 rfl ?_
            refine j_ireturn dV_levelBehindSources_39 rfl (by exact neg i (by omega) (Classical.byContradiction (fun z => h25 ((bt (by omega)).mpr z))) h35)
  refine j_iconst (p2 := 1) dV_levelBehindSources_0 rfl ?_
  refine j_istore_n (p2 := 2) (lv' := [(0, _), (1, _), (2, _)]) dV_levelBehindSources_1 rfl (Nat.le_of_ble_eq_true rfl) ⟨rfl, rfl, rfl, trivial⟩ ?_
  refine j_iconst (p2 := 3) dV_levelBehindSources_2 rfl ?_
  refine j_istore_n (p2 := 4) (lv' := [(0, _), (1, _), (2, _), (3, _)]) dV_levelBehindSources_3 rfl (Nat.le_of_ble_eq_true rfl) ⟨rfl, rfl, rfl, rfl, trivial⟩ ?_
  refine J.loc (lv' := [(0, _), (1, _), (2, _), (3, _)]) ⟨rfl, rfl, rfl, rfl, trivial⟩ ?_
  exact loop (N + 1) 0 0 (by omega) (by omega) (by omega) (fun s a b => absurd b (by omega)) ⟨Int.le_refl 0, fun s hs => absurd hs.1.2 (by omega), Or.inl rfl⟩
end LEV1
