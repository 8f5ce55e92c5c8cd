/-! ===== reading does not hang on what was read before ===== -/
section IND
variable {α : Type}
/-- each that does not remember comes behind those that its cords come from -/
def gOrd (kd fr : Int → Int) (N : Nat) : List Int → List Int → Prop
  | _, [] => True
  | done, m :: rest => ((0 ≤ m ∧ m < N) ∧ (¬ rem (kd m) → ∀ i : Int, 0 ≤ i → i < 6 → ¬ fr (6 * m + i) = -1 → fr (6 * m + i) ∈ done)) ∧ gOrd kd fr N (done ++ [m]) rest
theorem gOrd_app {kd fr : Int → Int} {N : Nat} : ∀ (a b done : List Int), gOrd kd fr N done a → gOrd kd fr N (done ++ a) b → gOrd kd fr N done (a ++ b)
  | [], b, done, _, h2 => by rw [List.append_nil] at h2; exact h2
  | m :: a, b, done, h1, h2 => ⟨h1.1, gOrd_app a b (done ++ [m]) h1.2 (by rw [List.append_assoc]; exact h2)⟩
theorem ga_cg {A : Ar α} {fr tu : Int → Int} {r r' : Int → α} {m i : Int} (h : ¬ fr (6 * m + i) = -1 → r (fr (6 * m + i)) = r' (fr (6 * m + i))) : ga A fr tu r m i = ga A fr tu r' m i := by
  unfold ga gin
  by_cases g : fr (6 * m + i) = -1
  · rw [if_pos g, if_pos g]
  · rw [if_neg g, if_neg g, h g]
theorem gsum_cg {A : Ar α} {fr tu : Int → Int} {r r' : Int → α} {m : Int} : ∀ n : Nat, (∀ j : Nat, j < n → ¬ fr (6 * m + (j : Int)) = -1 → r (fr (6 * m + (j : Int))) = r' (fr (6 * m + (j : Int)))) → gsum A fr tu r m n = gsum A fr tu r' m n
  | 0, _ => rfl
  | n + 1, h => by
    have ih := gsum_cg (A := A) (tu := tu) n (fun j hj => h j (by omega))
    by_cases g : fr (6 * m + (n : Int)) = -1
    · rw [gsum_no g, gsum_no g, ih]
    · have e : gin A fr tu r m n = gin A fr tu r' m n := by unfold gin; rw [h n (by omega) g]
      cases g2 : (gsum A fr tu r m n).2 with
      | true => rw [gsum_1 g g2, gsum_1 g (by rw [← ih]; exact g2), e]
      | false => rw [gsum_2 g g2, gsum_2 g (by rw [← ih]; exact g2), e, ih]
theorem gm_cg {A : Ar α} {kd fr tu np : Int → Int} {xs ys se se' row row' st st' r r' : Int → α} {m : Int} (h0 : 0 ≤ kd m ∧ kd m < 14) (hse : se m = se' m) (hrow : kd m = 11 → row (16 * m) = row' (16 * m)) (hst : st m = st' m) (h9 : kd m = 9 → ¬ fr (6 * m + 2) = -1) (hr : ¬ rem (kd m) → ∀ i : Int, 0 ≤ i → i < 6 → ¬ fr (6 * m + i) = -1 → r (fr (6 * m + i)) = r' (fr (6 * m + i))) :
    gmE A (kd, se, fr, tu, xs, ys, np, row, st) r m = gmE A (kd, se', fr, tu, xs, ys, np, row', st') r' m := by
  show gmk A (kd m) (ga A fr tu r m 0) (ga A fr tu r m 1) (gin A fr tu r m 2) (se m) (gsum A fr tu r m 6).1 (gtab A xs ys (np m) m (ga A fr tu r m 0)) (row (16 * m)) (st m) = gmk A (kd m) (ga A fr tu r' m 0) (ga A fr tu r' m 1) (gin A fr tu r' m 2) (se' m) (gsum A fr tu r' m 6).1 (gtab A xs ys (np m) m (ga A fr tu r' m 0)) (row' (16 * m)) (st' m)
  by_cases hrm : rem (kd m)
  · unfold rem at hrm
    rcases hrm with k | k | k | k
    · rw [k, hst]; rfl
    · rw [k, hst]; rfl
    · rw [k, hrow k]; rfl
    · rw [k, hst]; rfl
  · have g := hr hrm
    rw [ga_cg (fun q => g 0 (by omega) (by omega) q), ga_cg (i := 1) (fun q => g 1 (by omega) (by omega) q), gsum_cg 6 (fun j hj q => g j (by omega) (by omega) q), hse, hst]
    by_cases k9 : kd m = 9
    · have e : gin A fr tu r m 2 = gin A fr tu r' m 2 := by unfold gin; rw [g 2 (by omega) (by omega) (h9 k9)]
      rw [e, k9]; rfl
    · unfold rem at hrm
      have : kd m = 0 ∨ kd m = 1 ∨ kd m = 4 ∨ kd m = 5 ∨ kd m = 6 ∨ kd m = 7 ∨ kd m = 8 ∨ kd m = 10 ∨ kd m = 12 := by omega
      rcases this with k | k | k | k | k | k | k | k | k <;> (rw [k]; rfl)
theorem gread_ind {A : Ar α} {kd fr tu np : Int → Int} {xs ys se se' row row' st st' : Int → α} {N : Nat} (h0 : ∀ m : Int, 0 ≤ m → m < N → 0 ≤ kd m ∧ kd m < 14) (hse : ∀ m : Int, 0 ≤ m → m < N → se m = se' m) (hrow : ∀ m : Int, 0 ≤ m → m < N → kd m = 11 → row (16 * m) = row' (16 * m)) (hst : ∀ m : Int, 0 ≤ m → m < N → st m = st' m) (h9 : ∀ m : Int, 0 ≤ m → m < N → kd m = 9 → ¬ fr (6 * m + 2) = -1) :
    ∀ (L done : List Int) (s s' : (Int → α) × (Int → Bool)), gOrd kd fr N done L → (∀ k ∈ done, s.1 k = s'.1 k) → s.2 = s'.2 → (∀ k ∈ done ++ L, (gread A (kd, se, fr, tu, xs, ys, np, row, st) L s).1 k = (gread A (kd, se', fr, tu, xs, ys, np, row', st') L s').1 k) ∧ (gread A (kd, se, fr, tu, xs, ys, np, row, st) L s).2 = (gread A (kd, se', fr, tu, xs, ys, np, row', st') L s').2
  | [], done, s, s', _, h1, h2 => by
    rw [List.append_nil]
    exact ⟨h1, h2⟩
  | m :: L, done, s, s', ho, h1, h2 => by
    obtain ⟨⟨hm, hsrc⟩, ho2⟩ := ho
    have e := gm_cg (A := A) (tu := tu) (np := np) (xs := xs) (ys := ys) (r := s.1) (r' := s'.1) (h0 m hm.1 hm.2) (hse m hm.1 hm.2) (hrow m hm.1 hm.2) (hst m hm.1 hm.2) (h9 m hm.1 hm.2) (fun q i i0 i1 g => h1 _ (hsrc q i i0 i1 g))
    have ih := gread_ind (A := A) (tu := tu) (np := np) (xs := xs) (ys := ys) h0 hse hrow hst h9 L (done ++ [m]) (gone A (kd, se, fr, tu, xs, ys, np, row, st) s m) (gone A (kd, se', fr, tu, xs, ys, np, row', st') s' m) ho2 (fun k hk => by
      unfold gone
      rw [e]
      show fup s.1 m _ k = fup s'.1 m _ k
      unfold fup
      by_cases z : k = m
      · rw [if_pos z, if_pos z]
      · rw [if_neg z, if_neg z]
        rcases List.mem_append.mp hk with q | q
        · exact h1 k q
        · exact absurd (List.mem_singleton.mp q) z) (by
      unfold gone
      rw [e, h2])
    rw [List.append_assoc] at ih
    exact ih
end IND
/-- the levels are as they should be: sources lie below -/
abbrev LvI (kd fr lv : Int → Int) (N : Nat) : Prop := ∀ m : Int, 0 ≤ m → m < N → ¬ rem (kd m) → ¬ lv m = -1 → ∀ i : Int, 0 ≤ i → i < 6 → ¬ fr (6 * m + i) = -1 → 0 ≤ lv (fr (6 * m + i)) ∧ lv (fr (6 * m + i)) < lv m
theorem rowl_mem {lv : Int → Int} {l : Int} : ∀ (n : Nat) (k : Int), k ∈ rowl lv l n ↔ (0 ≤ k ∧ k < n) ∧ lv k = l
  | 0, k => by
    show k ∈ ([] : List Int) ↔ _
    constructor
    · intro h; cases h
    · intro h; omega
  | n + 1, k => by
    have ih := rowl_mem (lv := lv) (l := l) n k
    show k ∈ (if lv n = l then rowl lv l n ++ [(n : Int)] else rowl lv l n) ↔ _
    by_cases g : lv n = l
    · rw [if_pos g, List.mem_append, ih, List.mem_singleton]
      constructor
      · intro h
        rcases h with h | h
        · exact ⟨by omega, h.2⟩
        · subst h; exact ⟨by omega, g⟩
      · intro h
        by_cases e : k = n
        · exact Or.inr e
        · exact Or.inl ⟨by omega, h.2⟩
    · rw [if_neg g, ih]
      constructor
      · intro h; exact ⟨by omega, h.2⟩
      · intro h
        by_cases e : k = n
        · subst e; exact absurd h.2 g
        · exact ⟨by omega, h.2⟩
theorem ordl_mem {lv : Int → Int} {N : Nat} : ∀ (l : Nat) (k : Int), k ∈ ordl lv N l ↔ (0 ≤ k ∧ k < N) ∧ 0 ≤ lv k ∧ lv k < l
  | 0, k => by
    show k ∈ ([] : List Int) ↔ _
    constructor
    · intro h; cases h
    · intro h; omega
  | l + 1, k => by
    show k ∈ ordl lv N l ++ rowl lv l N ↔ _
    rw [List.mem_append, ordl_mem l k, rowl_mem N k]
    constructor
    · intro h
      rcases h with h | h
      · omega
      · omega
    · intro h
      by_cases e : lv k = l
      · exact Or.inr ⟨h.1, e⟩
      · exact Or.inl (by omega)
theorem rowl_ord {kd fr lv : Int → Int} {N l : Nat} (h : LvI kd fr lv N) (hc : CdN fr N) : ∀ n : Nat, n ≤ N → gOrd kd fr N (ordl lv N l) (rowl lv l n)
  | 0, _ => trivial
  | n + 1, hn => by
    have ih := rowl_ord (l := l) h hc n (by omega)
    show gOrd kd fr N _ (if lv n = l then rowl lv l n ++ [(n : Int)] else rowl lv l n)
    by_cases g : lv n = l
    · rw [if_pos g]
      refine gOrd_app _ _ _ ih ⟨⟨by omega, fun q i i0 i1 z => ?_⟩, trivial⟩
      have := h n (by omega) (by omega) q (by omega) i i0 i1 z
      have hb := hc n (by omega) (by omega) i i0 i1
      exact List.mem_append_left _ ((ordl_mem l _).mpr ⟨by omega, by omega⟩)
    · rw [if_neg g]; exact ih
theorem ordl_ord {kd fr lv : Int → Int} {N : Nat} (h : LvI kd fr lv N) (hc : CdN fr N) : ∀ l : Nat, gOrd kd fr N [] (ordl lv N l)
  | 0 => trivial
  | l + 1 => gOrd_app _ _ _ (ordl_ord h hc l) (rowl_ord h hc N (Nat.le_refl N))
theorem gmost_le {lv : Int → Int} : ∀ (n : Nat) (k : Int), 0 ≤ k → k < n → lv k ≤ gmost lv n
  | 0, k, h0, h1 => absurd h1 (by omega)
  | n + 1, k, h0, h1 => by
    have ih := gmost_le (lv := lv) n
    show lv k ≤ (if lv n > gmost lv n then lv n else gmost lv n)
    by_cases e : k = n
    · subst e; split <;> omega
    · have := ih k h0 (by omega)
      split <;> omega
theorem ords_mem {lv : Int → Int} {N : Nat} {k : Int} : k ∈ ords lv N ↔ (0 ≤ k ∧ k < N) ∧ 0 ≤ lv k := by
  unfold ords
  rw [ordl_mem]
  constructor
  · intro h; exact ⟨h.1, h.2.1⟩
  · intro h
    have := gmost_le (lv := lv) N k h.1.1 h.1.2
    exact ⟨h.1, h.2, by omega⟩
theorem ords_ord {kd fr lv : Int → Int} {N : Nat} (h : LvI kd fr lv N) (hc : CdN fr N) : gOrd kd fr N [] (ords lv N) := ordl_ord h hc _
