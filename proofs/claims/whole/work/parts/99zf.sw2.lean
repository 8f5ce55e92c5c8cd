/-! ===== the reference's sweep, taken back ===== -/
section RSB
variable {ν τ : Hp} {N S : Nat}
def ptc (τ ν : Hp) (c : Nat) : Hp := wD (wF (wL (wI τ c (hI ν c)) c (hL ν c)) c (hF ν c)) c (hD ν c)
theorem ptc_fo {L : List Nat} {c : Nat} {ω : Hp} (F : FqO (c :: L) ω τ) (e : hI ν c = hI ω c ∧ hL ν c = hL ω c ∧ hF ν c = hF ω c ∧ hD ν c = hD ω c) : FqO L ω (ptc τ ν c) := fun x hx => by
  by_cases z : x = c
  · subst z
    unfold ptc
    refine ⟨?_, ?_, ?_, ?_⟩
    · show hI (wI τ x (hI ν x)) x = _
      rw [hI_wI, if_pos rfl]; exact e.1
    · show hL (wL (wI τ x (hI ν x)) x (hL ν x)) x = _
      rw [hL_wL, if_pos rfl]; exact e.2.1
    · show hF (wF (wL (wI τ x (hI ν x)) x (hL ν x)) x (hF ν x)) x = _
      rw [hF_wF, if_pos rfl]; exact e.2.2.1
    · rw [hD_wD, if_pos rfl]; exact e.2.2.2
  · obtain ⟨q1, q2, q3, q4⟩ := F x (fun q => by rcases List.mem_cons.mp q with q | q; exact z q; exact hx q)
    unfold ptc
    refine ⟨?_, ?_, ?_, ?_⟩
    · show hI (wI τ c (hI ν c)) x = _
      rw [hI_wI, if_neg z]; exact q1
    · show hL (wL (wI τ c (hI ν c)) c (hL ν c)) x = _
      rw [hL_wL, if_neg z]; exact q2
    · show hF (wF (wL (wI τ c (hI ν c)) c (hL ν c)) c (hF ν c)) x = _
      rw [hF_wF, if_neg z]; exact q3
    · rw [hD_wD, if_neg z]; exact q4
theorem fup_id {α : Type} (f : Int → α) (m : Int) : fup f m (f m) = f := by
  funext k
  unfold fup
  by_cases e : k = m
  · rw [if_pos e, e]
  · rw [if_neg e]
end RSB
