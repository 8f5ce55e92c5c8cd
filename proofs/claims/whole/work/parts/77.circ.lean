/-! ===== circles, as the reference finds them ===== -/
theorem rcI_mem {fr re : Int → Int} {k v : Int} : ∀ n : Nat, ¬ rcI fr re k n v = 0 ↔ ¬ re v = 0 ∨ ∃ j : Nat, j < n ∧ ¬ fr (6 * k + (j : Int)) = -1 ∧ fr (6 * k + (j : Int)) = v
  | 0 => by
    constructor
    · intro h; exact Or.inl h
    · intro h
      rcases h with h | ⟨j, hj, _⟩
      · exact h
      · exact absurd hj (by omega)
  | n + 1 => by
    have ih := rcI_mem (fr := fr) (re := re) (k := k) (v := v) n
    show ¬ (if fr (6 * k + (n : Int)) = -1 then rcI fr re k n else fup (rcI fr re k n) (fr (6 * k + (n : Int))) 1) v = 0 ↔ _
    by_cases g : fr (6 * k + (n : Int)) = -1
    · rw [if_pos g, ih]
      constructor
      · intro h
        rcases h with h | ⟨j, a, b, c⟩
        · exact Or.inl h
        · exact Or.inr ⟨j, by omega, b, c⟩
      · intro h
        rcases h with h | ⟨j, a, b, c⟩
        · exact Or.inl h
        · by_cases e : j = n
          · subst e; exact absurd g b
          · exact Or.inr ⟨j, by omega, b, c⟩
    · rw [if_neg g]
      unfold fup
      by_cases e : v = fr (6 * k + (n : Int))
      · rw [if_pos e]
        constructor
        · intro _; exact Or.inr ⟨n, by omega, g, e.symm⟩
        · intro _; decide
      · rw [if_neg e, ih]
        constructor
        · intro h
          rcases h with h | ⟨j, a, b, c⟩
          · exact Or.inl h
          · exact Or.inr ⟨j, by omega, b, c⟩
        · intro h
          rcases h with h | ⟨j, a, b, c⟩
          · exact Or.inl h
          · by_cases z : j = n
            · subst z; exact absurd c.symm e
            · exact Or.inr ⟨j, by omega, b, c⟩
section RC
variable {kd fr : Int → Int} {m : Int} {N : Nat}
theorem rcK_up {re : Int → Int} {k v : Int} (h : ¬ re v = 0) : ¬ rcK kd fr m re k v = 0 := by
  unfold rcK
  split
  · exact (rcI_mem 6).mpr (Or.inl h)
  · exact h
theorem rcP_up {re : Int → Int} {v : Int} (h : ¬ re v = 0) : ∀ i : Nat, ¬ rcP kd fr m re i v = 0
  | 0 => h
  | i + 1 => rcK_up (rcP_up h i)
theorem rcK_ok {re : Int → Int} {k : Int} (h : ∀ v : Int, 0 ≤ v → v < N → ¬ re v = 0 → Rch kd fr m v) (hk : 0 ≤ k ∧ k < N) : ∀ v : Int, 0 ≤ v → v < N → ¬ rcK kd fr m re k v = 0 → Rch kd fr m v := by
  intro v v0 v1 hv
  unfold rcK at hv
  by_cases g : (k = m ∨ ¬ re k = 0) ∧ ¬ rem (kd k)
  · rw [if_pos g] at hv
    rcases (rcI_mem 6).mp hv with a | ⟨j, j1, j2, j3⟩
    · exact h v v0 v1 a
    · have hs : srcM kd fr k v := ⟨g.2, j, by omega, by omega, j2, j3⟩
      rcases g.1 with e | e
      · subst e; exact Rch.src hs
      · exact (h k hk.1 hk.2 e).step hs
  · rw [if_neg g] at hv
    exact h v v0 v1 hv
theorem rcP_ok {re : Int → Int} (h : ∀ v : Int, 0 ≤ v → v < N → ¬ re v = 0 → Rch kd fr m v) : ∀ i : Nat, i ≤ N → ∀ v : Int, 0 ≤ v → v < N → ¬ rcP kd fr m re i v = 0 → Rch kd fr m v
  | 0, _ => h
  | i + 1, hi => rcK_ok (rcP_ok h i (by omega)) (by omega)
theorem rcT_ok {re : Int → Int} (h : ∀ v : Int, 0 ≤ v → v < N → ¬ re v = 0 → Rch kd fr m v) : ∀ t : Nat, ∀ v : Int, 0 ≤ v → v < N → ¬ rcT kd fr m re N t v = 0 → Rch kd fr m v
  | 0 => h
  | t + 1 => rcP_ok (rcT_ok h t) N (Nat.le_refl N)
/-- a pass takes the sources of what is in -/
theorem rcP_src {re : Int → Int} {k s : Int} (h : k = m ∨ ¬ re k = 0) (hs : srcM kd fr k s) (h0 : 0 ≤ k) : ∀ i : Nat, k < i → ¬ rcP kd fr m re i s = 0
  | 0, hi => absurd hi (by omega)
  | i + 1, hi => by
    by_cases e : k = i
    · have h2 : k = m ∨ ¬ rcP kd fr m re i k = 0 := by
        rcases h with h | h
        · exact Or.inl h
        · exact Or.inr (rcP_up h i)
      show ¬ rcK kd fr m (rcP kd fr m re i) i s = 0
      unfold rcK
      rw [← e, if_pos ⟨h2, hs.1⟩]
      obtain ⟨_, j, j0, j1, j2, j3⟩ := hs
      exact (rcI_mem 6).mpr (Or.inr ⟨j.toNat, by omega, by rw [show ((j.toNat : Nat) : Int) = j by omega]; exact j2, by rw [show ((j.toNat : Nat) : Int) = j by omega]; exact j3⟩)
    · exact rcK_up (rcP_src h hs h0 i (by omega))
theorem rcs_iff (hc : CdN fr N) (hm : 0 ≤ m ∧ m < N) (re : Int → Int) {v : Int} (v0 : 0 ≤ v) (v1 : v < N) : ¬ rcs kd fr m re N v = 0 ↔ Rch kd fr m v := by
  have z0 : ∀ v : Int, 0 ≤ v → v < N → ¬ pw re (fun _ => 0) N v = 0 → Rch kd fr m v := fun v a b h => by
    rw [pw_lo a b] at h; exact absurd rfl h
  have b0 : ∀ t, B01 (rcT kd fr m (pw re (fun _ => 0) N) N t) N := rcT_01 rc0_01
  constructor
  · intro h; exact rcT_ok z0 (N + 1) v v0 v1 h
  · intro h
    have gr := grow (N := N) (c := 0) (S := fun t k => ¬ rcT kd fr m (pw re (fun _ => 0) N) N t k = 0) (Or.inr (Nat.zero_le _)) (fun t k _ _ s => rcP_up s N) (fun t hf => ?_) (N + 1)
    · rcases gr with g | g
      · refine Classical.byContradiction (fun hn => ?_)
        have := h (fun k => (0 ≤ k ∧ k < N) ∧ ¬ rcT kd fr m (pw re (fun _ => 0) N) N (N + 1) k = 0) ⟨fun s q => ?_, fun k s a q => ?_⟩
        · exact hn this.2
        · have sb := (Rch.src q).lt hc hm
          exact ⟨sb, g s sb.1 sb.2 (rcP_src (Or.inl rfl) q hm.1 N hm.2)⟩
        · have sb := (Rch.src q).lt hc a.1
          exact ⟨sb, g s sb.1 sb.2 (rcP_src (Or.inr a.2) q a.1.1 N a.1.2)⟩
      · have := cntP_le (fun k => ¬ rcT kd fr m (pw re (fun _ => 0) N) N (N + 1) k = 0) N
        omega
    · have ag : AgN (rcT kd fr m (pw re (fun _ => 0) N) N (t + 1)) (rcT kd fr m (pw re (fun _ => 0) N) N t) N := fun k a b => by
        have x1 := b0 (t + 1) k a b
        have x2 := b0 t k a b
        by_cases q : rcT kd fr m (pw re (fun _ => 0) N) N (t + 1) k = 0
        · have : rcT kd fr m (pw re (fun _ => 0) N) N t k = 0 := Classical.byContradiction (fun w => rcP_up (kd := kd) (fr := fr) (m := m) w N q)
          omega
        · have := hf k a b q
          omega
      intro k a b s
      have e := rcP_ag (kd := kd) (fr := fr) (m := m) ag N (Nat.le_refl N) k a b
      show ¬ rcP kd fr m (rcT kd fr m (pw re (fun _ => 0) N) N t) N k = 0
      rw [← e]; exact s
/-- a circle goes through m -/
theorem circ_iff (hc : CdN fr N) (hm : 0 ≤ m ∧ m < N) : circ kd fr N m = true ↔ Rch kd fr m m := by
  unfold circ
  by_cases hr : rem (kd m)
  · rw [if_pos hr]
    constructor
    · intro h; cases h
    · intro h; exact absurd hr h.nrem
  · rw [if_neg hr, decide_eq_true_iff]
    exact rcs_iff hc hm _ hm.1 hm.2
end RC
theorem fnd_none {p : Int → Bool} : ∀ (n : Nat) (i : Int), fnd p n i = none → ∀ k : Int, i ≤ k → k < i + n → p k = false
  | 0, i, _, k, a, b => absurd b (by omega)
  | n + 1, i, h, k, a, b => by
    have h : (if p i = true then some i else fnd p n (i + 1)) = none := h
    cases hp : p i with
    | true => rw [hp, if_pos rfl] at h; cases h
    | false =>
      rw [hp, if_neg (by decide)] at h
      by_cases e : k = i
      · rw [e]; exact hp
      · exact fnd_none n (i + 1) h k (by omega) (by omega)
theorem fnd_some {p : Int → Bool} : ∀ (n : Nat) (i x : Int), fnd p n i = some x → i ≤ x ∧ x < i + n ∧ p x = true
  | 0, i, x, h => by cases h
  | n + 1, i, x, h => by
    have h : (if p i = true then some i else fnd p n (i + 1)) = some x := h
    cases hp : p i with
    | true =>
      rw [hp, if_pos rfl] at h
      have e := Option.some.inj h
      subst e
      exact ⟨by omega, by omega, hp⟩
    | false =>
      rw [hp, if_neg (by decide)] at h
      obtain ⟨a, b, c⟩ := fnd_some n (i + 1) x h
      exact ⟨by omega, by omega, c⟩
theorem fnd_cg {p q : Int → Bool} : ∀ (n : Nat) (i : Int), (∀ k : Int, i ≤ k → k < i + n → p k = q k) → fnd p n i = fnd q n i
  | 0, _, _ => rfl
  | n + 1, i, h => by
    show (if p i = true then some i else fnd p n (i + 1)) = (if q i = true then some i else fnd q n (i + 1))
    rw [h i (by omega) (by omega), fnd_cg n (i + 1) (fun k a b => h k (by omega) (by omega))]
/-- what check = 0 says -/
theorem chk_0 {kd fr np : Int → Int} {N : Nat} (hc : CdN fr N) (h : (chk kd fr np N).1 = 0) : (∀ m : Int, 0 ≤ m → m < N → hIn kd fr m = true) ∧ (∀ m : Int, 0 ≤ m → m < N → kd m = 7 → 2 ≤ np m) ∧ ∀ m : Int, 0 ≤ m → m < N → ¬ Rch kd fr m m := by
  unfold chk at h
  cases h1 : fnd (fun m => !hIn kd fr m) N 0 with
  | some x =>
    rw [h1] at h
    have := fnd_some N 0 x h1
    have h : 1 + x = 0 := h
    omega
  | none =>
    rw [h1] at h
    cases h2 : fnd (fun m => decide (kd m = 7) && decide (np m < 2)) N 0 with
    | some x =>
      rw [h2] at h
      have := fnd_some N 0 x h2
      have h : 1 + x = 0 := h
      omega
    | none =>
      rw [h2] at h
      cases h3 : fnd (circ kd fr N) N 0 with
      | some x =>
        rw [h3] at h
        have := fnd_some N 0 x h3
        have h : 1 + x = 0 := h
        omega
      | none =>
        refine ⟨fun m a b => ?_, fun m a b k => ?_, fun m a b => ?_⟩
        · have := fnd_none N 0 h1 m a (by omega)
          simpa using this
        · have := fnd_none N 0 h2 m a (by omega)
          rw [Bool.and_eq_false_iff] at this
          rcases this with q | q
          · exact absurd k (of_decide_eq_false q)
          · have := of_decide_eq_false q; omega
        · have := fnd_none N 0 h3 m a (by omega)
          intro q
          rw [(circ_iff hc ⟨a, b⟩).mpr q] at this
          cases this
