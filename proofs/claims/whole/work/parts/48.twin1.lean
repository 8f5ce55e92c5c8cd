/-! ===== a twin, over any numbers ===== -/
section TW
variable {α : Type}
theorem pw_cg {f g g' : Int → α} {N : Nat} (h : ∀ k : Int, 0 ≤ k → k < N → g k = g' k) : pw f g N = pw f g' N := by
  funext k
  unfold pw
  by_cases c : 0 ≤ k ∧ k < N
  · rw [if_pos c, if_pos c]; exact h k c.1 c.2
  · rw [if_neg c, if_neg c]
/-- what tracks and delays get, whatever was there -/
def gnx (A : Ar α) (kd fr tu : Int → Int) (r st : Int → α) : Int → α := fun m => if kd m = 3 then (if Acm A (gin A fr tu r m 1) (Ac A 0) = some .gt then gin A fr tu r m 0 else st m) else gin A fr tu r m 0
/-- the rates, whatever the kind -/
def gra (A : Ar α) (fr tu : Int → Int) (r : Int → α) : Int → α := fun m => (gsum A fr tu r m 6).1
theorem oth_cg {kd : Int → Int} {nx nx' st z : Int → α} {N : Nat} (h : ∀ m : Int, 0 ≤ m → m < N → kd m = 3 → nx m = nx' m) : pw st (othS kd nx st z) N = pw st (othS kd nx' st z) N := by
  refine pw_cg (fun m a b => ?_)
  unfold othS
  by_cases c : kd m = 3
  · rw [if_pos c, if_pos c]; exact h m a b c
  · rw [if_neg c, if_neg c]
theorem row_cg {kd nn : Int → Int} {f nx nx' : Int → α} {N : Nat} (h : ∀ m : Int, 0 ≤ m → m < N → kd m = 11 → nx m = nx' m) : pw f (rowS kd nn f nx) (16 * N) = pw f (rowS kd nn f nx') (16 * N) := by
  refine pw_cg (fun j a b => ?_)
  unfold rowS
  by_cases c : kd (j / 16) = 11
  · rw [if_pos c, if_pos c, h (j / 16) (by omega) (by omega) c]
  · rw [if_neg c, if_neg c]
theorem mvS_cg {A : Ar α} {kd : Int → Int} {h : α} {bf bf' ra ra' st : Int → α} {N : Nat} (h1 : ∀ m : Int, 0 ≤ m → m < N → kd m = 2 → bf m = bf' m ∧ ra m = ra' m) : pw st (gmvS A kd h bf ra st) N = pw st (gmvS A kd h bf' ra' st) N := by
  refine pw_cg (fun m a b => ?_)
  unfold gmvS
  by_cases c : kd m = 2
  · rw [if_pos c, if_pos c]
    unfold gmv
    rw [(h1 m a b c).1, (h1 m a b c).2]
  · rw [if_neg c, if_neg c]
theorem mvB_cg {A : Ar α} {kd : Int → Int} {h : α} {bf bf' ra ra' : Int → α} {N : Nat} (h1 : ∀ m : Int, 0 ≤ m → m < N → kd m = 2 → bf m = bf' m ∧ ra m = ra' m) : pw (fun _ => false) (gmvB A kd h bf ra) N = pw (fun _ => false) (gmvB A kd h bf' ra') N := by
  refine pw_cg (fun m a b => ?_)
  unfold gmvB
  by_cases c : kd m = 2
  · unfold gmv
    rw [(h1 m a b c).1, (h1 m a b c).2]
  · rw [decide_eq_false c]; rfl
end TW
