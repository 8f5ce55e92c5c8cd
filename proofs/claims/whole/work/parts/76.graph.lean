/-! ===== cords as a graph: what is reached, circles, levels ===== -/
/-- how many of the first n are in p -/
noncomputable def cntP (p : Int → Prop) : Nat → Nat
  | 0 => 0
  | n + 1 => cntP p n + (if Classical.propDecidable (p n) |>.decide then 1 else 0)
theorem cntP_le (p : Int → Prop) : ∀ n : Nat, cntP p n ≤ n
  | 0 => Nat.le_refl 0
  | n + 1 => by
    have := cntP_le p n
    unfold cntP
    split <;> omega
theorem cntP_mono {p q : Int → Prop} : ∀ n : Nat, (∀ k : Int, 0 ≤ k → k < n → p k → q k) → cntP p n ≤ cntP q n
  | 0, _ => Nat.le_refl 0
  | n + 1, h => by
    have ih := cntP_mono n (fun k a b => h k a (by omega))
    unfold cntP
    by_cases hp : p n
    · have hq := h n (by omega) (by omega) hp
      rw [if_pos (by simp only [hp, decide_true]), if_pos (by simp only [hq, decide_true])]; omega
    · rw [if_neg (by simp only [hp, decide_false]; decide)]; omega
theorem cntP_lt {p q : Int → Prop} {x : Int} : ∀ n : Nat, (∀ k : Int, 0 ≤ k → k < n → p k → q k) → 0 ≤ x → x < n → ¬ p x → q x → cntP p n < cntP q n
  | 0, _, h0, h1, _, _ => absurd h1 (by omega)
  | n + 1, h, h0, h1, hp, hq => by
    by_cases e : x = n
    · subst e
      have ih := cntP_mono (p := p) (q := q) n (fun k a b => h k a (by omega))
      unfold cntP
      rw [if_neg (by simp only [hp, decide_false]; decide), if_pos (by simp only [hq, decide_true])]; omega
    · have ih := cntP_lt n (fun k a b => h k a (by omega)) h0 (by omega) hp hq
      unfold cntP
      by_cases hpn : p n
      · have hqn := h n (by omega) (by omega) hpn
        rw [if_pos (by simp only [hpn, decide_true]), if_pos (by simp only [hqn, decide_true])]; omega
      · rw [if_neg (by simp only [hpn, decide_false]; decide)]; omega
/-- a growing row of sets comes to rest -/
theorem grow {N c : Nat} {S : Nat → Int → Prop} (h0 : (∀ k : Int, 0 ≤ k → k < N → S 1 k → S 0 k) ∨ c ≤ cntP (S 0) N) (hm : ∀ (t : Nat) (k : Int), 0 ≤ k → k < N → S t k → S (t + 1) k) (hf : ∀ t, (∀ k : Int, 0 ≤ k → k < N → S (t + 1) k → S t k) → ∀ k : Int, 0 ≤ k → k < N → S (t + 2) k → S (t + 1) k) :
    ∀ t : Nat, (∀ k : Int, 0 ≤ k → k < N → S (t + 1) k → S t k) ∨ c + t ≤ cntP (S t) N
  | 0 => by
    rcases h0 with h | h
    · exact Or.inl h
    · exact Or.inr h
  | t + 1 => by
    rcases grow h0 hm hf t with h | h
    · exact Or.inl (hf t h)
    · by_cases g : ∀ k : Int, 0 ≤ k → k < N → S (t + 1) k → S t k
      · exact Or.inl (hf t g)
      · right
        have : ∃ k : Int, 0 ≤ k ∧ k < N ∧ S (t + 1) k ∧ ¬ S t k := by
          apply Classical.byContradiction
          intro q
          apply g
          intro k a b s
          apply Classical.byContradiction
          intro z
          exact q ⟨k, a, b, s, z⟩
        obtain ⟨k, a, b, s, z⟩ := this
        have := cntP_lt N (fun j x y => hm t j x y) a b z s
        omega
/-- a cord goes from s to m, which does not remember -/
def srcM (kd fr : Int → Int) (m s : Int) : Prop := ¬ rem (kd m) ∧ ∃ i : Int, 0 ≤ i ∧ i < 6 ∧ ¬ fr (6 * m + i) = -1 ∧ fr (6 * m + i) = s
def ClS (kd fr : Int → Int) (m : Int) (S : Int → Prop) : Prop := (∀ s, srcM kd fr m s → S s) ∧ ∀ k s, S k → srcM kd fr k s → S s
/-- v is reached from m, against the cords -/
def Rch (kd fr : Int → Int) (m v : Int) : Prop := ∀ S, ClS kd fr m S → S v
theorem Rch.src {kd fr : Int → Int} {m s : Int} (h : srcM kd fr m s) : Rch kd fr m s := fun _ c => c.1 s h
theorem Rch.step {kd fr : Int → Int} {m k s : Int} (h : Rch kd fr m k) (h2 : srcM kd fr k s) : Rch kd fr m s := fun S c => c.2 k s (h S c) h2
theorem Rch.trans {kd fr : Int → Int} {m s v : Int} (h : Rch kd fr m s) (h2 : Rch kd fr s v) : Rch kd fr m v := h2 _ ⟨fun _ q => h.step q, fun _ _ a b => Rch.step a b⟩
theorem Rch.lt {kd fr : Int → Int} {m v : Int} {N : Nat} (hc : CdN fr N) (hm : 0 ≤ m ∧ m < N) (h : Rch kd fr m v) : 0 ≤ v ∧ v < N := by
  refine h (fun v => 0 ≤ v ∧ v < N) ⟨fun s q => ?_, fun k s a q => ?_⟩
  · obtain ⟨_, i, i0, i1, g, e⟩ := q
    have := hc m hm.1 hm.2 i i0 i1
    omega
  · obtain ⟨_, i, i0, i1, g, e⟩ := q
    have := hc k a.1 a.2 i i0 i1
    omega
theorem Rch.nrem {kd fr : Int → Int} {m v : Int} (h : Rch kd fr m v) : ¬ rem (kd m) := fun hr =>
  h (fun _ => False) ⟨fun s q => q.1 hr, fun _ _ a _ => a⟩
/-! levels -/
theorem lvI_all {fr lv : Int → Int} {m : Int} : ∀ n : Nat, (lvI fr lv m n).2 = true → ∀ j : Nat, j < n → ¬ fr (6 * m + (j : Int)) = -1 → ¬ lv (fr (6 * m + (j : Int))) = -1 ∧ lv (fr (6 * m + (j : Int))) ≤ (lvI fr lv m n).1
  | 0, _, j, hj, _ => absurd hj (by omega)
  | n + 1, h, j, hj, g => by
    by_cases e : fr (6 * m + (n : Int)) = -1
    · have e1 : lvI fr lv m (n + 1) = lvI fr lv m n := if_pos e
      rw [e1] at h ⊢
      by_cases ej : j = n
      · subst ej; exact absurd e g
      · exact lvI_all n h j (by omega) g
    · have e1 : lvI fr lv m (n + 1) = (if lv (fr (6 * m + (n : Int))) > (lvI fr lv m n).1 then lv (fr (6 * m + (n : Int))) else (lvI fr lv m n).1, (lvI fr lv m n).2 && decide (¬ lv (fr (6 * m + (n : Int))) = -1)) := if_neg e
      rw [e1] at h ⊢
      have h2 : ((lvI fr lv m n).2 && decide (¬ lv (fr (6 * m + (n : Int))) = -1)) = true := h
      rw [Bool.and_eq_true] at h2
      have h3 := of_decide_eq_true h2.2
      show ¬ lv (fr (6 * m + (j : Int))) = -1 ∧ lv (fr (6 * m + (j : Int))) ≤ (if lv (fr (6 * m + (n : Int))) > (lvI fr lv m n).1 then lv (fr (6 * m + (n : Int))) else (lvI fr lv m n).1)
      by_cases ej : j = n
      · subst ej
        refine ⟨h3, ?_⟩
        split <;> omega
      · have ih := lvI_all n h2.1 j (by omega) g
        refine ⟨ih.1, ?_⟩
        split <;> omega
theorem lvI_no {fr lv : Int → Int} {m : Int} : ∀ n : Nat, (lvI fr lv m n).2 = false → ∃ j : Nat, j < n ∧ ¬ fr (6 * m + (j : Int)) = -1 ∧ lv (fr (6 * m + (j : Int))) = -1
  | 0, h => by cases h
  | n + 1, h => by
    by_cases e : fr (6 * m + (n : Int)) = -1
    · have e1 : lvI fr lv m (n + 1) = lvI fr lv m n := if_pos e
      rw [e1] at h
      obtain ⟨j, a, b, c⟩ := lvI_no n h
      exact ⟨j, by omega, b, c⟩
    · have e1 : lvI fr lv m (n + 1) = (if lv (fr (6 * m + (n : Int))) > (lvI fr lv m n).1 then lv (fr (6 * m + (n : Int))) else (lvI fr lv m n).1, (lvI fr lv m n).2 && decide (¬ lv (fr (6 * m + (n : Int))) = -1)) := if_neg e
      rw [e1] at h
      have h2 : ((lvI fr lv m n).2 && decide (¬ lv (fr (6 * m + (n : Int))) = -1)) = false := h
      rw [Bool.and_eq_false_iff] at h2
      rcases h2 with h2 | h2
      · obtain ⟨j, a, b, c⟩ := lvI_no n h2
        exact ⟨j, by omega, b, c⟩
      · have := of_decide_eq_false h2
        exact ⟨n, by omega, e, Classical.not_not.mp this⟩
/-- levels on the way: those that remember at 0, sources below -/
abbrev LvJ (kd fr lv : Int → Int) (N : Nat) : Prop := LvI kd fr lv N ∧ (∀ m : Int, 0 ≤ m → m < N → rem (kd m) → lv m = 0) ∧ LvB lv N
theorem lvM_J {kd fr lv : Int → Int} {N : Nat} {m : Int} (hc : CdN fr N) (hm : 0 ≤ m ∧ m < N) (h : LvJ kd fr lv N) : LvJ kd fr (lvM fr lv m) N := by
  obtain ⟨h1, h2, h3⟩ := h
  have hb := lvM_b hc hm h3
  refine ⟨?_, ?_, hb⟩
  · unfold lvM
    by_cases g : lv m = -1
    · rw [if_pos g]
      have hI6 := lvI_b hc hm h3 6 (by omega)
      intro k k0 k1 hr hk i i0 i1 hf
      by_cases e : k = m
      · subst e
        rw [fup_s] at hk
        by_cases a : (lvI fr lv k 6).2 = true
        · rw [if_pos a] at hk
          have hs := lvI_all 6 a i.toNat (by omega) (by rw [show ((i.toNat : Nat) : Int) = i by omega]; exact hf)
          rw [show ((i.toNat : Nat) : Int) = i by omega] at hs
          have hne : ¬ fr (6 * k + i) = k := fun z => by rw [z] at hs; exact hs.1 g
          rw [fup_n hne, fup_s, if_pos a]
          have hcb := hc k k0 k1 i i0 i1
          have := h3 (fr (6 * k + i)) (by omega) (by omega)
          omega
        · rw [if_neg a] at hk; exact absurd rfl hk
      · rw [fup_n e] at hk ⊢
        have hs := h1 k k0 k1 hr hk i i0 i1 hf
        have hne : ¬ fr (6 * k + i) = m := fun z => by rw [z, g] at hs; omega
        rw [fup_n hne]; exact hs
    · rw [if_neg g]; exact h1
  · intro k k0 k1 hr
    unfold lvM
    by_cases g : lv m = -1
    · rw [if_pos g]
      have hne : ¬ k = m := fun z => by subst z; rw [h2 k k0 k1 hr] at g; omega
      rw [fup_n hne]; exact h2 k k0 k1 hr
    · rw [if_neg g]; exact h2 k k0 k1 hr
theorem lvP_J {kd fr lv : Int → Int} {N : Nat} (hc : CdN fr N) (h : LvJ kd fr lv N) : ∀ i : Nat, i ≤ N → LvJ kd fr (lvP fr lv i) N
  | 0, _ => h
  | i + 1, hi => lvM_J hc (by omega) (lvP_J hc h i (by omega))
theorem lvT_J {kd fr lv : Int → Int} {N : Nat} (hc : CdN fr N) (h : LvJ kd fr lv N) : ∀ t : Nat, LvJ kd fr (lvT fr lv N t) N
  | 0 => h
  | t + 1 => lvP_J hc (lvT_J hc h t) N (Nat.le_refl N)
theorem lv0_J {kd fr lv : Int → Int} {N : Nat} : LvJ kd fr (lv0 kd lv N) N := by
  refine ⟨fun m a b hr hk => ?_, fun m a b hr => ?_, lv0_b⟩
  · have e : lv0 kd lv N m = if rem (kd m) then 0 else -1 := pw_lo a b
    rw [e, if_neg hr] at hk
    exact absurd rfl hk
  · have e : lv0 kd lv N m = if rem (kd m) then 0 else -1 := pw_lo a b
    rw [e, if_pos hr]
theorem lvs_J {kd fr lv : Int → Int} {N : Nat} (hc : CdN fr N) : LvJ kd fr (lvs kd fr lv N) N := lvT_J hc lv0_J N
theorem lvM_c {fr lv : Int → Int} {N : Nat} {m : Int} (hc : CdN fr N) (hm : 0 ≤ m ∧ m < N) (hl : LvB lv N) : lvM fr lv m = lv ∨ cnt (lvM fr lv m) N = cnt lv N + 1 := by
  unfold lvM
  by_cases g : lv m = -1
  · rw [if_pos g]
    by_cases a : (lvI fr lv m 6).2 = true
    · rw [if_pos a]
      have hI6 := lvI_b hc hm hl 6 (by omega)
      exact Or.inr (cnt_s hm.1 g (by omega) N hm.2)
    · rw [if_neg a]
      left
      funext k; unfold fup
      by_cases e : k = m
      · rw [if_pos e, e, g]
      · rw [if_neg e]
  · rw [if_neg g]; exact Or.inl rfl
theorem lvP_c {fr lv : Int → Int} {N : Nat} (hc : CdN fr N) (hl : LvB lv N) : ∀ i : Nat, i ≤ N → (lvP fr lv i = lv ∧ ∀ j : Nat, j < i → lvM fr lv j = lv) ∨ cnt lv N < cnt (lvP fr lv i) N
  | 0, _ => Or.inl ⟨rfl, fun j h => absurd h (by omega)⟩
  | i + 1, hi => by
    have ih := lvP_c hc hl i (by omega)
    have hb := lvP_b hc hl i (by omega)
    have st := lvM_c hc (by omega : 0 ≤ (i : Int) ∧ (i : Int) < N) hb
    show (lvM fr (lvP fr lv i) i = lv ∧ _) ∨ cnt lv N < cnt (lvM fr (lvP fr lv i) i) N
    rcases ih with ih | ih
    · rw [ih.1] at st ⊢
      rcases st with s | s
      · left
        refine ⟨s, fun j hj => ?_⟩
        by_cases e : j = i
        · subst e; exact s
        · exact ih.2 j (by omega)
      · right; omega
    · right
      rcases st with s | s
      · rw [s]; exact ih
      · omega
theorem lvT_c {fr lv : Int → Int} {N : Nat} (hc : CdN fr N) (hl : LvB lv N) : ∀ t : Nat, (∀ j : Nat, j < N → lvM fr (lvT fr lv N t) j = lvT fr lv N t) ∨ (t : Int) ≤ cnt (lvT fr lv N t) N
  | 0 => Or.inr (cnt_b lv N).1
  | t + 1 => by
    have hb := lvT_b hc hl t
    have st := lvP_c hc hb N (Nat.le_refl N)
    show (∀ j : Nat, j < N → lvM fr (lvP fr (lvT fr lv N t) N) j = lvP fr (lvT fr lv N t) N) ∨ ((t + 1 : Nat) : Int) ≤ cnt (lvP fr (lvT fr lv N t) N) N
    rcases st with s | s
    · rw [s.1]; exact Or.inl s.2
    · rcases lvT_c hc hl t with h | h
      · left
        have : ∀ i : Nat, i ≤ N → lvP fr (lvT fr lv N t) i = lvT fr lv N t := by
          intro i
          induction i with
          | zero => intro _; rfl
          | succ i ih =>
            intro hi
            show lvM fr (lvP fr (lvT fr lv N t) i) i = _
            rw [ih (by omega)]; exact h i (by omega)
        rw [this N (Nat.le_refl N)]; exact h
      · right; omega
theorem cnt_full {lv : Int → Int} : ∀ n : Nat, (n : Int) ≤ cnt lv n → ∀ m : Int, 0 ≤ m → m < n → ¬ lv m = -1
  | 0, _, m, h0, h1 => absurd h1 (by omega)
  | n + 1, h, m, h0, h1 => by
    have hb := cnt_b lv n
    have h : ((n + 1 : Nat) : Int) ≤ cnt lv n + (if lv n = -1 then 0 else 1) := h
    by_cases g : lv n = -1
    · rw [if_pos g] at h; omega
    · rw [if_neg g] at h
      by_cases e : m = n
      · subst e; exact g
      · exact cnt_full n (by omega) m h0 (by omega)
/-- a module without a level has a source without one -/
theorem lvs_no {kd fr lv : Int → Int} {N : Nat} (hc : CdN fr N) {m : Int} (h0 : 0 ≤ m) (h1 : m < N) (h : lvs kd fr lv N m = -1) : ∃ s, srcM kd fr m s ∧ lvs kd fr lv N s = -1 := by
  have hJ := lvs_J (kd := kd) (lv := lv) hc
  have hr : ¬ rem (kd m) := fun q => by have := hJ.2.1 m h0 h1 q; omega
  have st := lvT_c (lv := lv0 kd lv N) hc lv0_b N
  rcases st with s | s
  · have s2 := s m.toNat (by omega)
    rw [show ((m.toNat : Nat) : Int) = m by omega] at s2
    have s2 : lvM fr (lvs kd fr lv N) m = lvs kd fr lv N := s2
    unfold lvM at s2
    rw [if_pos h] at s2
    have s3 := congrFun s2 m
    rw [fup_s, h] at s3
    cases a : (lvI fr (lvs kd fr lv N) m 6).2 with
    | true =>
      rw [a, if_pos rfl] at s3
      have := lvI_b hc ⟨h0, h1⟩ hJ.2.2 6 (by omega)
      omega
    | false =>
      obtain ⟨j, j1, j2, j3⟩ := lvI_no 6 a
      exact ⟨fr (6 * m + (j : Int)), ⟨hr, j, by omega, by omega, j2, rfl⟩, j3⟩
  · have := cnt_full (lv := lvs kd fr lv N) N s m h0 h1
    exact absurd h this
theorem lvs_circ {kd fr lv : Int → Int} {N : Nat} (hc : CdN fr N) {m : Int} (h0 : 0 ≤ m) (h1 : m < N) (h : ¬ lvs kd fr lv N m = -1) : ¬ Rch kd fr m m := fun hr => by
  have hJ := lvs_J (kd := kd) (lv := lv) hc
  have hn := hr.nrem
  have := hr (fun k => (0 ≤ k ∧ k < N) ∧ 0 ≤ lvs kd fr lv N k ∧ lvs kd fr lv N k < lvs kd fr lv N m) ⟨fun s q => ?_, fun k s a q => ?_⟩
  · omega
  · obtain ⟨_, i, i0, i1, g, e⟩ := q
    have a := hJ.1 m h0 h1 hn h i i0 i1 g
    have b := hc m h0 h1 i i0 i1
    rw [e] at a b
    exact ⟨by omega, a⟩
  · obtain ⟨hk, i, i0, i1, g, e⟩ := q
    have x := hJ.1 k a.1.1 a.1.2 hk (by omega) i i0 i1 g
    have b := hc k a.1.1 a.1.2 i i0 i1
    rw [e] at x b
    exact ⟨by omega, by omega⟩
theorem find_circ {kd fr lv : Int → Int} {N : Nat} (hc : CdN fr N) : ∀ (c : Nat) (u : Int), 0 ≤ u → u < N → lvs kd fr lv N u = -1 → cntP (Rch kd fr u) N ≤ c → ∃ s : Int, 0 ≤ s ∧ s < N ∧ Rch kd fr s s
  | c, u, h0, h1, h, hcn => by
    obtain ⟨s, hs, hl⟩ := lvs_no hc h0 h1 h
    have us := Rch.src hs
    have sb := us.lt hc ⟨h0, h1⟩
    by_cases g : Rch kd fr s s
    · exact ⟨s, sb.1, sb.2, g⟩
    · have lt := cntP_lt (p := Rch kd fr s) (q := Rch kd fr u) N (fun k _ _ q => us.trans q) sb.1 sb.2 g us
      match c with
      | 0 => exact absurd hcn (by omega)
      | c + 1 => exact find_circ hc c s sb.1 sb.2 hl (by omega)
/-- without a circle all have levels -/
theorem lvs_all {kd fr lv : Int → Int} {N : Nat} (hc : CdN fr N) (h : ∀ m : Int, 0 ≤ m → m < N → ¬ Rch kd fr m m) : ∀ m : Int, 0 ≤ m → m < N → 0 ≤ lvs kd fr lv N m := fun m h0 h1 => by
  have hb := (lvs_J (kd := kd) (lv := lv) hc).2.2 m h0 h1
  by_cases g : lvs kd fr lv N m = -1
  · obtain ⟨s, a, b, q⟩ := find_circ hc N m h0 h1 g (cntP_le _ N)
    exact absurd q (h s a b)
  · omega
