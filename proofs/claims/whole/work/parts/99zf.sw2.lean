/-! ===== the reference's sweep, taken back ===== -/
section RSB
variable {ν τ : Hp} {N S : Nat}
def ptc (τ ν : Hp) (c : Nat) : Hp := wD (wF (wL (wI τ c (hI ν c)) c (hL ν c)) c (hF ν c)) c (hD ν c)
theorem ptc_fo {L : List Nat} {c : Nat} {ω : Hp} (F : FqO (c :: L) ω τ) (e : hI ν c = hI ω c ∧ hL ν c = hL ω c ∧ hF ν c = hF ω c ∧ hD ν c = hD ω c) : FqO L ω (ptc τ ν c) := fun x hx => by
  by_cases z : x = c
  · subst z
    unfold ptc
    refine ⟨?_, ?_, ?_, ?_⟩
    · show hI (wI τ x (hI ν x)) x = _
      rw [hI_wI, if_pos rfl]; exact e.1
    · show hL (wL (wI τ x (hI ν x)) x (hL ν x)) x = _
      rw [hL_wL, if_pos rfl]; exact e.2.1
    · show hF (wF (wL (wI τ x (hI ν x)) x (hL ν x)) x (hF ν x)) x = _
      rw [hF_wF, if_pos rfl]; exact e.2.2.1
    · rw [hD_wD, if_pos rfl]; exact e.2.2.2
  · obtain ⟨q1, q2, q3, q4⟩ := F x (fun q => by rcases List.mem_cons.mp q with q | q; exact z q; exact hx q)
    unfold ptc
    refine ⟨?_, ?_, ?_, ?_⟩
    · show hI (wI τ c (hI ν c)) x = _
      rw [hI_wI, if_neg z]; exact q1
    · show hL (wL (wI τ c (hI ν c)) c (hL ν c)) x = _
      rw [hL_wL, if_neg z]; exact q2
    · show hF (wF (wL (wI τ c (hI ν c)) c (hL ν c)) c (hF ν c)) x = _
      rw [hF_wF, if_neg z]; exact q3
    · rw [hD_wD, if_neg z]; exact q4
theorem fup_id {α : Type} (f : Int → α) (m : Int) : fup f m (f m) = f := by
  funext k
  unfold fup
  by_cases e : k = m
  · rw [if_pos e, e]
  · rw [if_neg e]
theorem sw_end (h : RlN ν N S) (o : ¬ hI ν 69 11 = 0) (F : FqO (103 :: 71 :: TrR) (kpH ν) τ) (w : WS τ N) (z : Zr τ N) (zt : Zt τ N) (lv : Ag (hI τ 79) (lvC (hI ν 70) (hI ν 72) N) N) (h69 : ∀ x : Int, ¬ x = 12 → ¬ x = 44 → hI τ 69 x = hI (kpH ν) 69 x) : RlN (bkH (ptc (ptc τ ν 103) ν 71)) N S := by
  have F1 : FqO (71 :: TrR) (kpH ν) (ptc τ ν 103) := ptc_fo F ⟨rfl, rfl, rfl, rfl⟩
  have F2 : FqO TrR (kpH ν) (ptc (ptc τ ν 103) ν 71) := ptc_fo F1 ⟨rfl, rfl, rfl, rfl⟩
  have e70 : hI τ 70 = hI ν 70 := F.I (c := 70) (by decide)
  have e72 : hI τ 72 = hI ν 72 := F.I (c := 72) (by decide)
  obtain ⟨⟨v1, v2, v3, v4, v5, v6, v7⟩, v8, v9⟩ := (h.2.2.2.2.2.2.2 o).2.2.2.1
  have w' : WS (ptc (ptc τ ν 103) ν 71) N := by
    obtain ⟨⟨w1, w2, w3, w4, w5, w6, w7⟩, w8, w9⟩ := w
    refine ⟨⟨w1, w2, fun m x y => ?_, w4, w5, w6, w7⟩, w8, fun m x y => ?_⟩
    · obtain ⟨g1, g2, g3, g4, g5, g6, g7, g8⟩ := w3 m x y
      obtain ⟨_, _, _, _, _, u6, u7, _⟩ := v3 m x y
      refine ⟨g1, g2, g3, g4, g5, fun k => ?_, u7, g8⟩
      have k : hI τ 70 m = 10 ∨ hI τ 70 m = 12 := k
      rw [e70] at k
      exact u6 k
    · obtain ⟨a1, a2⟩ := w9 m x y
      refine ⟨a1, fun k => ⟨(a2 k).1, ?_⟩⟩
      have k : hI τ 70 m = 11 := k
      rw [e70] at k
      exact ((v9 m x y).2 k).2
  exact Rel_back h o F2 w' z zt lv h69
end RSB
