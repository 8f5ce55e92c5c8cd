/-! ===== the class's levels: order, circles ===== -/
theorem cntP_s (p : Int → Prop) (n : Nat) : (p n → cntP p (n + 1) = cntP p n + 1) ∧ (¬ p n → cntP p (n + 1) = cntP p n) := by
  constructor
  · intro h
    show cntP p n + _ = _
    rw [if_pos (by simp only [h, decide_true])]
  · intro h
    show cntP p n + _ = _
    rw [if_neg (by simp only [h, decide_false]; decide)]
    rfl
theorem cntP_le2 (p : Int → Prop) {a : Nat} : ∀ b : Nat, a ≤ b → cntP p a ≤ cntP p b
  | 0, h => by have : a = 0 := by omega
               subst this; exact Nat.le_refl _
  | b + 1, h => by
    by_cases e : a = b + 1
    · subst e; exact Nat.le_refl _
    · have := cntP_le2 p (a := a) b (by omega)
      by_cases g : p b
      · rw [(cntP_s p b).1 g]; omega
      · rw [(cntP_s p b).2 g]; exact this
theorem cntP_or {p q r : Int → Prop} : ∀ n : Nat, (∀ k : Int, 0 ≤ k → k < n → (r k ↔ p k ∨ q k)) → (∀ k : Int, 0 ≤ k → k < n → ¬ (p k ∧ q k)) → cntP r n = cntP p n + cntP q n
  | 0, _, _ => rfl
  | n + 1, h1, h2 => by
    have ih := cntP_or n (fun k a b => h1 k a (by omega)) (fun k a b => h2 k a (by omega))
    have e1 := h1 n (by omega) (by omega)
    have e2 := h2 n (by omega) (by omega)
    by_cases hp : p n
    · rw [(cntP_s r n).1 (e1.mpr (Or.inl hp)), (cntP_s p n).1 hp, (cntP_s q n).2 (fun z => e2 ⟨hp, z⟩)]; omega
    · by_cases hq : q n
      · rw [(cntP_s r n).1 (e1.mpr (Or.inr hq)), (cntP_s p n).2 hp, (cntP_s q n).1 hq]; omega
      · rw [(cntP_s r n).2 (fun z => (e1.mp z).elim hp hq), (cntP_s p n).2 hp, (cntP_s q n).2 hq]; omega
theorem rowl_len (lv : Int → Int) (l : Int) : ∀ n : Nat, (rowl lv l n).length = cntP (fun k => lv k = l) n
  | 0 => rfl
  | n + 1 => by
    have ih := rowl_len lv l n
    show (if lv n = l then rowl lv l n ++ [(n : Int)] else rowl lv l n).length = _
    by_cases g : lv n = l
    · rw [if_pos g, List.length_append, ih, (cntP_s (fun k => lv k = l) n).1 g]; rfl
    · rw [if_neg g, ih, (cntP_s (fun k => lv k = l) n).2 g]
theorem ordl_len (lv : Int → Int) (N : Nat) : ∀ l : Nat, (ordl lv N l).length = cntP (fun k => 0 ≤ lv k ∧ lv k < l) N
  | 0 => by
    show 0 = _
    have := cntP_mono (p := fun k => 0 ≤ lv k ∧ lv k < ((0 : Nat) : Int)) (q := fun _ => False) N (fun k _ _ h => by omega)
    have e : ∀ n, cntP (fun _ => False) n = 0 := fun n => by
      induction n with
      | zero => rfl
      | succ n ih => rw [(cntP_s (fun _ => False) n).2 (fun z => z), ih]
    rw [e] at this
    omega
  | l + 1 => by
    show (ordl lv N l ++ rowl lv l N).length = _
    rw [List.length_append, ordl_len lv N l, rowl_len]
    exact (cntP_or N (fun k _ _ => by constructor <;> intro h <;> omega) (fun k _ _ h => by omega)).symm
theorem row_room {lv : Int → Int} {N l i : Nat} (hi : i < N) (hl : lv i = l) : (ordl lv N l ++ rowl lv l i).length < N := by
  rw [List.length_append, ordl_len, rowl_len]
  have h1 := (cntP_s (fun k => lv k = l) i).1 hl
  have h2 := cntP_le2 (fun k => lv k = (l : Int)) (a := i + 1) N (by omega)
  have h3 := cntP_or (p := fun k => 0 ≤ lv k ∧ lv k < (l : Int)) (q := fun k => lv k = (l : Int)) (r := fun k => 0 ≤ lv k ∧ lv k < ((l + 1 : Nat) : Int)) N (fun k _ _ => by constructor <;> intro h <;> omega) (fun k _ _ h => by omega)
  have h4 := cntP_le (fun k => 0 ≤ lv k ∧ lv k < ((l + 1 : Nat) : Int)) N
  omega
theorem row_room2 {lv : Int → Int} {N l : Nat} : (ordl lv N l).length ≤ N := by
  rw [ordl_len]; exact cntP_le _ N
theorem rowl_nil {lv : Int → Int} {l : Int} : ∀ n : Nat, (∀ k : Int, 0 ≤ k → k < n → ¬ lv k = l) → rowl lv l n = []
  | 0, _ => rfl
  | n + 1, h => by
    show (if lv n = l then rowl lv l n ++ [(n : Int)] else rowl lv l n) = []
    rw [if_neg (h n (by omega) (by omega))]
    exact rowl_nil n (fun k a b => h k a (by omega))
theorem ordl_top {lv : Int → Int} {N l : Nat} (h : ∀ k : Int, 0 ≤ k → k < N → lv k < l) : ∀ d : Nat, ordl lv N (l + d) = ordl lv N l
  | 0 => rfl
  | d + 1 => by
    show ordl lv N (l + d) ++ rowl lv ((l + d : Nat) : Int) N = _
    rw [ordl_top h d, rowl_nil N (fun k a b e => by have := h k a b; omega), List.append_nil]
theorem ordl_ords {lv : Int → Int} {N : Nat} (h : ∀ k : Int, 0 ≤ k → k < N → lv k ≤ N) : ordl lv N (N + 1) = ords lv N := by
  unfold ords
  have g0 : ∀ n : Nat, n ≤ N → 0 ≤ gmost lv n ∧ gmost lv n ≤ N := by
    intro n
    induction n with
    | zero => intro _; show (0 : Int) ≤ 0 ∧ (0 : Int) ≤ N; omega
    | succ n ih =>
      intro hn
      have a := ih (by omega)
      have b := h n (by omega) (by omega)
      show 0 ≤ (if lv n > gmost lv n then lv n else gmost lv n) ∧ (if lv n > gmost lv n then lv n else gmost lv n) ≤ N
      split <;> omega
  have hg := g0 N (Nat.le_refl N)
  obtain ⟨L, hL⟩ : ∃ L, L = (gmost lv N + 1).toNat := ⟨_, rfl⟩
  rw [← hL, show N + 1 = L + (N + 1 - L) by omega]
  exact ordl_top (fun k a b => by have := gmost_le (lv := lv) N k a b; omega) _
theorem rowl_ag {lv lv' : Int → Int} {l : Int} : ∀ n : Nat, (∀ k : Int, 0 ≤ k → k < n → lv k = lv' k) → rowl lv l n = rowl lv' l n
  | 0, _ => rfl
  | n + 1, h => by
    show (if lv n = l then rowl lv l n ++ [(n : Int)] else rowl lv l n) = (if lv' n = l then rowl lv' l n ++ [(n : Int)] else rowl lv' l n)
    rw [h n (by omega) (by omega), rowl_ag n (fun k a b => h k a (by omega))]
theorem ordl_ag {lv lv' : Int → Int} {N : Nat} (h : AgN lv lv' N) : ∀ l : Nat, ordl lv N l = ordl lv' N l
  | 0 => rfl
  | l + 1 => by
    show ordl lv N l ++ rowl lv l N = ordl lv' N l ++ rowl lv' l N
    rw [ordl_ag h l, rowl_ag N h]
theorem gmost_ag {lv lv' : Int → Int} : ∀ n : Nat, (∀ k : Int, 0 ≤ k → k < n → lv k = lv' k) → gmost lv n = gmost lv' n
  | 0, _ => rfl
  | n + 1, h => by
    show (if lv n > gmost lv n then lv n else gmost lv n) = (if lv' n > gmost lv' n then lv' n else gmost lv' n)
    rw [h n (by omega) (by omega), gmost_ag n (fun k a b => h k a (by omega))]
theorem ords_ag {lv lv' : Int → Int} {N : Nat} (h : AgN lv lv' N) : ords lv N = ords lv' N := by
  unfold ords
  rw [gmost_ag N h, ordl_ag h]
theorem lvI_ag {fr lv lv' : Int → Int} {N : Nat} {m : Int} (hc : CdN fr N) (hm : 0 ≤ m ∧ m < N) (h : AgN lv lv' N) : ∀ n : Nat, n ≤ 6 → lvI fr lv m n = lvI fr lv' m n
  | 0, _ => rfl
  | n + 1, hn => by
    have ih := lvI_ag hc hm h n (by omega)
    by_cases e : fr (6 * m + (n : Int)) = -1
    · have e1 : lvI fr lv m (n + 1) = lvI fr lv m n := if_pos e
      have e2 : lvI fr lv' m (n + 1) = lvI fr lv' m n := if_pos e
      rw [e1, e2, ih]
    · have hb := hc m hm.1 hm.2 n (by omega) (by omega)
      have e1 : lvI fr lv m (n + 1) = (if lv (fr (6 * m + (n : Int))) > (lvI fr lv m n).1 then lv (fr (6 * m + (n : Int))) else (lvI fr lv m n).1, (lvI fr lv m n).2 && decide (¬ lv (fr (6 * m + (n : Int))) = -1)) := if_neg e
      have e2 : lvI fr lv' m (n + 1) = (if lv' (fr (6 * m + (n : Int))) > (lvI fr lv' m n).1 then lv' (fr (6 * m + (n : Int))) else (lvI fr lv' m n).1, (lvI fr lv' m n).2 && decide (¬ lv' (fr (6 * m + (n : Int))) = -1)) := if_neg e
      rw [e1, e2, ih, h (fr (6 * m + (n : Int))) (by omega) (by omega)]
theorem lvM_ag {fr lv lv' : Int → Int} {N : Nat} {m : Int} (hc : CdN fr N) (hm : 0 ≤ m ∧ m < N) (h : AgN lv lv' N) : AgN (lvM fr lv m) (lvM fr lv' m) N := by
  intro k a b
  unfold lvM
  rw [h m hm.1 hm.2, lvI_ag hc hm h 6 (by omega)]
  by_cases g : lv' m = -1
  · rw [if_pos g, if_pos g]
    unfold fup
    by_cases e : k = m
    · rw [if_pos e, if_pos e]
    · rw [if_neg e, if_neg e]; exact h k a b
  · rw [if_neg g, if_neg g]; exact h k a b
theorem lvP_ag {fr lv lv' : Int → Int} {N : Nat} (hc : CdN fr N) (h : AgN lv lv' N) : ∀ i : Nat, i ≤ N → AgN (lvP fr lv i) (lvP fr lv' i) N
  | 0, _ => h
  | i + 1, hi => lvM_ag hc (by omega) (lvP_ag hc h i (by omega))
theorem lvT_ag {fr lv lv' : Int → Int} {N : Nat} (hc : CdN fr N) (h : AgN lv lv' N) : ∀ t : Nat, AgN (lvT fr lv N t) (lvT fr lv' N t) N
  | 0 => h
  | t + 1 => lvP_ag hc (lvT_ag hc h t) N (Nat.le_refl N)
theorem lvs_ag {kd fr lv lv' : Int → Int} {N : Nat} (hc : CdN fr N) : AgN (lvs kd fr lv N) (lvs kd fr lv' N) N :=
  lvT_ag hc (fun k a b => by unfold lv0; rw [pw_lo a b, pw_lo a b]) N
/-- the levels, whatever was there -/
def lvC (kd fr : Int → Int) (N : Nat) : Int → Int := lvs kd fr (fun _ => 0) N
section LEV2
variable {σ : Hp} {Q : Option PV → Hp → Prop}
theorem cV_sort {N : Nat} (hN : hI σ 3 0 = N ∧ N ≤ 20) (hl : ∀ k : Int, 0 ≤ k → k < N → -1 ≤ hI σ 16 k ∧ hI σ 16 k ≤ 20) (hQ : ∀ a, (∀ i : Nat, ∀ x : Int, (ordl (hI σ 16) N (N + 1))[i]? = some x → a i = x) → Q none (wI (wI σ 15 (fup (hI σ 15) 3 (ordl (hI σ 16) N (N + 1)).length)) 17 a)) : Sp mV_sort [vR 15] σ Q := by
  obtain ⟨hN, hN2⟩ := hN
  obtain ⟨lv, hlv⟩ : ∃ lv, lv = hI σ 16 := ⟨_, rfl⟩
  rw [← hlv] at hl hQ
  have sH_s : ∀ {x y : Int} {a b : Int → Int}, wI (wI (wI (wI σ 15 (fup (hI σ 15) 3 x)) 17 a) 17 b) 15 (fup (fup (hI σ 15) 3 x) 3 y) = wI (wI σ 15 (fup (hI σ 15) 3 y)) 17 b := fun {x y a b} => by
    have e : fup (fup (hI σ 15) 3 x) 3 y = fup (hI σ 15) 3 y := by
      funext k; unfold fup
      by_cases h : k = 3
      · rw [if_pos h, if_pos h]
      · rw [if_neg h, if_neg h, if_neg h]
    rw [e]
    apply hp_ext <;> intro c <;> simp only [hI_wI, hI_wL, hI_wF, hI_wD, hL_wI, hL_wL, hL_wF, hL_wD, hF_wI, hF_wL, hF_wF, hF_wD, hD_wI, hD_wL, hD_wF, hD_wD]
    by_cases h1 : c = 15 <;> by_cases h2 : c = 17 <;> simp_all
  have inner : ∀ (l : Nat), l ≤ N → (∀ a, (∀ i : Nat, ∀ x : Int, (ordl lv N (l + 1))[i]? = some x → a i = x) → J mV_sort 7 [(0, vR 15), (1, vI (l + 1))] [] (wI (wI σ 15 (fup (hI σ 15) 3 (ordl lv N (l + 1)).length)) 17 a) Q) →
      ∀ (n i : Nat), i ≤ N → N + 1 ≤ i + n → ∀ a, (∀ j : Nat, ∀ x : Int, (ordl lv N l ++ rowl lv l i)[j]? = some x → a j = x) → J mV_sort 20 [(0, vR 15), (1, vI l), (2, vI i)] [] (wI (wI σ 15 (fup (hI σ 15) 3 (ordl lv N l ++ rowl lv l i).length)) 17 a) Q := by
    intro l hl1 kk n
    induction n with
    | zero => intro i h1 h2; exact absurd h2 (by omega)
    | succ n ih =>
      intro i h1 h2 a ha
      obtain ⟨K, hK⟩ : ∃ K, K = ordl lv N l ++ rowl lv l i := ⟨_, rfl⟩
      have room : i < N → lv i = l → K.length < N := fun z g => by rw [hK]; exact row_room z g
      obtain ⟨τ, hτ⟩ : ∃ τ, τ = wI (wI σ 15 (fup (hI σ 15) 3 K.length)) 17 a := ⟨_, rfl⟩
      have eN : hI τ 3 0 = N := by rw [hτ]; exact hN
      have e16 : hI τ 16 = lv := by rw [hτ, hlv]; rfl
      have e15 : hI τ 15 = fup (hI σ 15) 3 K.length := by rw [hτ]; rfl
      have e153 : hI τ 15 3 = K.length := by rw [e15, fup_s]
      have e17 : hI τ 17 = a := by rw [hτ]; rfl
      have lb : i < N → -1 ≤ lv i ∧ lv i ≤ 20 := fun z => hl i (by omega) (by omega)
      have no : i < N → ¬ lv i = l → J mV_sort 20 [(0, vR 15), (1, vI l), (2, vI (i + 1))] [] τ Q := fun z g => by
        have e : rowl lv l (i + 1) = rowl lv l i := if_neg g
        have := ih (i + 1) (by omega) (by omega) a (by rw [e]; exact ha)
        rw [e, ← hK, ← hτ] at this
        exact this
      have yes : i < N → lv i = l → J mV_sort 20 [(0, vR 15), (1, vI l), (2, vI (i + 1))] [] (wI (wI τ 17 (fup (hI τ 17) (hI τ 15 3) i)) 15 (fup (hI τ 15) 3 (hI τ 15 3 + 1))) Q := fun z g => by
        have e : rowl lv l (i + 1) = rowl lv l i ++ [(i : Int)] := if_pos g
        have e2 : ordl lv N l ++ rowl lv l (i + 1) = K ++ [(i : Int)] := by rw [e, hK, List.append_assoc]
        have := ih (i + 1) (by omega) (by omega) (fup a K.length i) (fun j x hj => by
          rw [e2] at hj
          by_cases q : j < K.length
          · rw [List.getElem?_append_left q] at hj
            rw [fup_n (by omega)]
            rw [hK] at hj
            exact ha j x hj
          · rw [List.getElem?_append_right (by omega)] at hj
            have q2 : j = K.length := by
              rcases Nat.lt_or_ge (j - K.length) 1 with w | w
              · omega
              · rw [List.getElem?_eq_none (by simpa using w)] at hj; cases hj
            subst q2
            rw [Nat.sub_self] at hj
            have : (i : Int) = x := Option.some.inj hj
            rw [fup_s]; exact this)
        rw [e153, e17, e15, hτ, sH_s]
        rw [e2, List.length_append] at this
        exact this
      clear ih
      rw [← hK, ← hτ]
      refine j_iload_n (p2 := 21) dV_sort_20 rfl rfl ?_
      refine j_aload_n (p2 := 22) dV_sort_21 rfl rfl ?_
      refine j_getR (p2 := 25) dV_sort_22 rfl fa_V_21 ly_15 rfl ?_
      refine j_getIk (p2 := 28) dV_sort_25 rfl fa_V_31 ly_3 rfl (ki := 0) rfl ?_
      refine j_icmp_ge (p2 := 31) (tg := 67) dV_sort_28 rfl (by decide) (by constructor <;> omega) (by rw [eN]; constructor <;> omega) (fun h28 => ?_) (fun h28 => ?_)
      · refine j_iinc (p2 := 70) (lv' := [(0, _), (1, _)]) dV_sort_67 rfl (Nat.le_of_ble_eq_true rfl) rfl ⟨rfl, rfl, trivial⟩ ?_
        refine j_goto (p2 := 7) dV_sort_70 (by decide) ?_
        refine J.loc (lv' := [(0, _), (1, _)]) ⟨rfl, rfl, trivial⟩ ?_
        rw [eN] at h28
        have e : i = N := by omega
        subst e
        rw [hτ, hK]
        exact kk a ha
      · refine j_aload_n (p2 := 32) dV_sort_31 rfl rfl ?_
        refine j_getR (p2 := 35) dV_sort_32 rfl fa_V_9 ly_15 rfl ?_
        refine j_iload_n (p2 := 36) dV_sort_35 rfl rfl ?_
        refine j_iald (p2 := 37) dV_sort_36 rfl ly_16 (by decide) (by omega) (by rw [eN] at h28; omega) ?_
        refine j_iload_n (p2 := 38) dV_sort_37 rfl rfl ?_
        refine j_icmp_ne (p2 := 41) (tg := 61) dV_sort_38 rfl (by decide) (by rw [eN] at h28; rw [e16]; have := lb (by omega); constructor <;> omega) (by constructor <;> omega) (fun h38 => ?_) (fun h38 => ?_)
        · refine j_iinc (p2 := 64) (lv' := [(0, _), (1, _), (2, _)]) dV_sort_61 rfl (Nat.le_of_ble_eq_true rfl) rfl ⟨rfl, rfl, rfl, trivial⟩ ?_
          refine j_goto (p2 := 20) dV_sort_64 (by decide) ?_
          refine J.loc (lv' := [(0, _), (1, _), (2, _)]) ⟨rfl, rfl, rfl, trivial⟩ ?_
          rw [eN] at h28
          rw [e16] at h38
          first
            | (have g : lv i = l := h38
               exact yes (by omega) g)
            | (have g : ¬ lv i = l := h38
               exact no (by omega) g)
        · refine j_aload_n (p2 := 42) dV_sort_41 rfl rfl ?_
          refine j_getR (p2 := 45) dV_sort_42 rfl fa_V_15 ly_15 rfl ?_
          refine j_aload_n (p2 := 46) dV_sort_45 rfl rfl ?_
          refine j_getIk (p2 := 49) dV_sort_46 rfl fa_V_61 ly_15 rfl (ki := 3) rfl ?_
          refine j_iload_n (p2 := 50) dV_sort_49 rfl rfl ?_
          refine j_iastk (p2 := 51) dV_sort_50 rfl ly_17 (by decide) (by rw [e153]; omega) (by rw [e153]; rw [eN] at h28; rw [e16] at h38; have := room (by omega) h38; omega) ?_
          refine j_aload_n (p2 := 52) dV_sort_51 rfl rfl ?_
          refine j_dup (p2 := 53) dV_sort_52 rfl rfl ?_
          refine j_getIk (p2 := 56) dV_sort_53 rfl fa_V_61 ly_15 rfl (ki := 3) rfl ?_
          refine j_iconst (p2 := 57) dV_sort_56 rfl ?_
          refine j_iadd (p2 := 58) dV_sort_57 rfl ?_
          refine j_putIk (p2 := 61) dV_sort_58 rfl fw_V_61 ly_15 rfl (ki := 3) rfl ?_
          refine j_iinc (p2 := 64) (lv' := [(0, _), (1, _), (2, _)]) dV_sort_61 rfl (Nat.le_of_ble_eq_true rfl) rfl ⟨rfl, rfl, rfl, trivial⟩ ?_
          refine j_goto (p2 := 20) dV_sort_64 (by decide) ?_
          refine J.loc (lv' := [(0, _), (1, _), (2, _)]) ⟨rfl, rfl, rfl, trivial⟩ ?_
          rw [eN] at h28
          rw [e16] at h38
          first
            | (have g : lv i = l := h38
               exact yes (by omega) g)
            | (have g : ¬ lv i = l := h38
               exact no (by omega) g)
  have outer : ∀ (n l : Nat), l ≤ N + 1 → N + 2 ≤ l + n → ∀ a, (∀ i : Nat, ∀ x : Int, (ordl lv N l)[i]? = some x → a i = x) → J mV_sort 7 [(0, vR 15), (1, vI l)] [] (wI (wI σ 15 (fup (hI σ 15) 3 (ordl lv N l).length)) 17 a) Q := by
    intro n
    induction n with
    | zero => intro l h1 h2; exact absurd h2 (by omega)
    | succ n ih =>
      intro l h1 h2 a ha
      have eN : hI (wI (wI σ 15 (fup (hI σ 15) 3 (ordl lv N l).length)) 17 a) 3 0 = N := hN
      have inn := fun z : l ≤ N => inner l z (fun b hb => ih (l + 1) (by omega) (by omega) b hb) (N + 1) 0 (by omega) (by omega) a (by rw [show rowl lv l 0 = [] from rfl, List.append_nil]; exact ha)
      rw [show rowl lv l 0 = [] from rfl, List.append_nil] at inn
      refine j_iload_n (p2 := 8) dV_sort_7 rfl rfl ?_
      refine j_aload_n (p2 := 9) dV_sort_8 rfl rfl ?_
      refine j_getR (p2 := 12) dV_sort_9 rfl fa_V_21 ly_15 rfl ?_
      refine j_getIk (p2 := 15) dV_sort_12 rfl fa_V_31 ly_3 rfl (ki := 0) rfl ?_
      refine j_icmp_gt (p2 := 18) (tg := 73) dV_sort_15 rfl (by decide) (by constructor <;> omega) (by rw [eN]; constructor <;> omega) (fun h15 => ?_) (fun h15 => ?_)
      · refine j_return dV_sort_73 rfl (by rw [eN] at h15; have e : l = N + 1 := (by omega); subst e; exact hQ a ha)
      · refine j_iconst (p2 := 19) dV_sort_18 rfl ?_
        refine j_istore_n (p2 := 20) (lv' := [(0, _), (1, _), (2, _)]) dV_sort_19 rfl (Nat.le_of_ble_eq_true rfl) ⟨rfl, rfl, rfl, trivial⟩ ?_
        refine J.loc (lv' := [(0, _), (1, _), (2, _)]) ⟨rfl, rfl, rfl, trivial⟩ ?_
        rw [eN] at h15
        exact inn (by omega)
  have start := outer (N + 2) 0 (by omega) (by omega) (hI σ 17) (fun i x h => by cases h)
  have e0 : wI (wI σ 15 (fup (hI σ 15) 3 (ordl lv N 0).length)) 17 (hI σ 17) = wI σ 15 (fup (hI σ 15) 3 0) := wI_id (wI σ 15 (fup (hI σ 15) 3 0)) 17
  rw [e0] at start
  refine j_aload_n (p2 := 1) dV_sort_0 rfl rfl ?_
  refine j_iconst (p2 := 2) dV_sort_1 rfl ?_
  refine j_putIk (p2 := 5) dV_sort_2 rfl fw_V_61 ly_15 rfl (ki := 3) rfl ?_
  refine j_iconst (p2 := 6) dV_sort_5 rfl ?_
  refine j_istore_n (p2 := 7) (lv' := [(0, _), (1, _)]) dV_sort_6 rfl (Nat.le_of_ble_eq_true rfl) ⟨rfl, rfl, trivial⟩ ?_
  refine J.loc (lv' := [(0, _), (1, _)]) ⟨rfl, rfl, trivial⟩ ?_
  exact start
theorem cV_greatest {N : Nat} (hN : hI σ 3 0 = N ∧ N ≤ 20) (hl : ∀ k : Int, 0 ≤ k → k < N → -1 ≤ hI σ 16 k ∧ hI σ 16 k ≤ 20) (hQ : Q (some (vI (gmost (hI σ 16) N))) σ) : Sp mV_greatest [vR 15] σ Q := by
  obtain ⟨hN, hN2⟩ := hN
  have hmb := gmost_b (lv := hI σ 16) (n := N) (fun m hm => (hl m (by omega) (by omega)).2)
  have loop : ∀ (n i : Nat), i ≤ N → N + 1 ≤ i + n → J mV_greatest 4 [(0, vR 15), (1, vI (gmost (hI σ 16) i)), (2, vI i)] [] σ Q := by
    intro n
    induction n with
    | zero => intro i h1 h2; exact absurd h2 (by omega)
    | succ n ih =>
      intro i h1 h2
      have hb := hmb i h1
      have lb : i < N → -1 ≤ hI σ 16 i ∧ hI σ 16 i ≤ 20 := fun z => hl i (by omega) (by omega)
      have ih2 : i < N → J mV_greatest 4 [(0, vR 15), (1, vI (max (gmost (hI σ 16) i) (hI σ 16 i))), (2, vI (i + 1))] [] σ Q := fun z => by
        have := ih (i + 1) (by omega) (by omega)
        have e : gmost (hI σ 16) (i + 1) = max (gmost (hI σ 16) i) (hI σ 16 i) := by
          show (if hI σ 16 i > gmost (hI σ 16) i then hI σ 16 i else gmost (hI σ 16) i) = _
          split <;> omega
        rw [e] at this; exact this
      refine j_iload_n (p2 := 5) dV_greatest_4 rfl rfl ?_
      refine j_aload_n (p2 := 6) dV_greatest_5 rfl rfl ?_
      refine j_getR (p2 := 9) dV_greatest_6 rfl fa_V_21 ly_15 rfl ?_
      refine j_getIk (p2 := 12) dV_greatest_9 rfl fa_V_31 ly_3 rfl (ki := 0) rfl ?_
      refine j_icmp_ge (p2 := 15) (tg := 32) dV_greatest_12 rfl (by decide) (by constructor <;> omega) (by constructor <;> omega) (fun h12 => ?_) (fun h12 => ?_)
      · refine j_iload_n (p2 := 33) dV_greatest_32 rfl rfl ?_
        refine j_ireturn dV_greatest_33 rfl (by have e : i = N := (by omega); subst e; exact hQ)
      · refine j_iload_n (p2 := 16) dV_greatest_15 rfl rfl ?_
        refine j_aload_n (p2 := 17) dV_greatest_16 rfl rfl ?_
        refine j_getR (p2 := 20) dV_greatest_17 rfl fa_V_9 ly_15 rfl ?_
        refine j_iload_n (p2 := 21) dV_greatest_20 rfl rfl ?_
        refine j_iald (p2 := 22) dV_greatest_21 rfl ly_16 (by decide) (by omega) (by omega) ?_
        refine j_callS (m' := mJA_max) (As := [_, _]) (p2 := 25) dV_greatest_22 rfl ml_V_55 ok_mJA_max sm_mJA_max rfl rfl (Nat.le_of_ble_eq_true rfl) (Nat.le_of_ble_eq_true rfl) ⟨(Nat.le_of_ble_eq_true rfl), (Nat.le_of_ble_eq_true rfl)⟩ ?_
        refine cJA_max (by constructor <;> omega) (by have := lb (by omega); constructor <;> omega) ?_
        refine j_istore_n (p2 := 26) (lv' := [(0, _), (1, _), (2, _)]) dV_greatest_25 rfl (Nat.le_of_ble_eq_true rfl) ⟨rfl, rfl, rfl, trivial⟩ ?_
        refine j_iinc (p2 := 29) (lv' := [(0, _), (1, _), (2, _)]) dV_greatest_26 rfl (Nat.le_of_ble_eq_true rfl) rfl ⟨rfl, rfl, rfl, trivial⟩ ?_
        refine j_goto (p2 := 4) dV_greatest_29 (by decide) ?_
        refine J.loc (lv' := [(0, _), (1, _), (2, _)]) ⟨rfl, rfl, rfl, trivial⟩ ?_
        exact ih2 (by omega)
  refine j_iconst (p2 := 1) dV_greatest_0 rfl ?_
  refine j_istore_n (p2 := 2) (lv' := [(0, _), (1, _)]) dV_greatest_1 rfl (Nat.le_of_ble_eq_true rfl) ⟨rfl, rfl, trivial⟩ ?_
  refine j_iconst (p2 := 3) dV_greatest_2 rfl ?_
  refine j_istore_n (p2 := 4) (lv' := [(0, _), (1, _), (2, _)]) dV_greatest_3 rfl (Nat.le_of_ble_eq_true rfl) ⟨rfl, rfl, rfl, trivial⟩ ?_
  refine J.loc (lv' := [(0, _), (1, _), (2, _)]) ⟨rfl, rfl, rfl, trivial⟩ ?_
  exact loop (N + 1) 0 (by omega) (by omega)
end LEV2
