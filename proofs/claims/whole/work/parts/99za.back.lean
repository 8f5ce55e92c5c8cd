/-! ===== the reference: back to what was kept ===== -/
section RBK
variable {σ τ : Hp} {N S : Nat}
abbrev KbC : List Nat := [69, 79, 80, 81, 82, 83, 84, 85, 86, 87, 88, 89, 90, 91, 92, 93, 94, 95, 96, 97, 98, 99, 105, 106, 107, 108, 109, 110, 111, 112, 113, 114, 115, 116]
theorem fo_kp : FqO KbC σ (kpH σ) := by
  have h1 : FqO KbC σ (wI σ 69 (fup (hI σ 69) 58 (hI σ 69 12))) := FqO.rf.wI (by decide)
  have h2 : FqO KbC (wI σ 69 (fup (hI σ 69) 58 (hI σ 69 12))) (kpY (wI σ 69 (fup (hI σ 69) 58 (hI σ 69 12))) 20) := (((((((FqO.rf.wD (by decide)).wF (by decide)).wD (by decide)).wF (by decide)).wI (by decide)).wI (by decide)).wD (by decide)).wD (by decide)
  have h3 : FqO KbC (kpY (wI σ 69 (fup (hI σ 69) 58 (hI σ 69 12))) 20) (kpH σ) := (FqO.rf.wD (by decide)).wF (by decide)
  exact (h1.trans h2).trans h3
theorem fo_bk : FqO KbC σ (bkH σ) := by
  have h1 : FqO KbC σ (wI σ 69 (fup (hI σ 69) 12 (hI σ 69 58))) := FqO.rf.wI (by decide)
  have h2 : FqO KbC (wI σ 69 (fup (hI σ 69) 12 (hI σ 69 58))) (bkY (wI σ 69 (fup (hI σ 69) 12 (hI σ 69 58))) 20) := (((((((FqO.rf.wD (by decide)).wF (by decide)).wD (by decide)).wF (by decide)).wI (by decide)).wI (by decide)).wD (by decide)).wD (by decide)
  have h3 : FqO KbC (bkY (wI σ 69 (fup (hI σ 69) 12 (hI σ 69 58))) 20) (bkH σ) := (FqO.rf.wD (by decide)).wF (by decide)
  exact (h1.trans h2).trans h3
/-- the rows that were kept, as they are there again -/
theorem bk_rows (F : FqO TrR (kpH σ) τ) : (∀ k : Int, 0 ≤ k → k < 20 → hD (bkH τ) 80 k = hD σ 80 k ∧ hF (bkH τ) 81 k = hF σ 81 k ∧ hD (bkH τ) 82 k = hD σ 82 k ∧ hF (bkH τ) 83 k = hF σ 83 k ∧ hI (bkH τ) 86 k = hI σ 86 k ∧ hI (bkH τ) 87 k = hI σ 87 k ∧ hD (bkH τ) 88 k = hD σ 88 k ∧ hD (bkH τ) 89 k = hD σ 89 k) ∧ (∀ k : Int, 0 ≤ k → k < 320 → hD (bkH τ) 84 k = hD σ 84 k ∧ hF (bkH τ) 85 k = hF σ 85 k) := by
  have k20 : (20 : Int) = ((20 : Nat) : Int) := rfl
  refine ⟨fun k a b => ⟨?_, ?_, ?_, ?_, ?_, ?_, ?_, ?_⟩, fun k a b => ⟨?_, ?_⟩⟩
  · have e1 : hD (bkH τ) 80 k = hD τ 90 k := pw_lo (f := hD τ 80) (g := hD τ 90) (n := 20) a b
    have e2 : hD (kpH σ) 90 k = hD σ 80 k := pw_lo (f := hD σ 90) (g := hD σ 80) (n := 20) a b
    rw [e1, F.D (by decide), e2]
  · have e1 : hF (bkH τ) 81 k = hF τ 91 k := pw_lo (f := hF τ 81) (g := hF τ 91) (n := 20) a b
    have e2 : hF (kpH σ) 91 k = hF σ 81 k := pw_lo (f := hF σ 91) (g := hF σ 81) (n := 20) a b
    rw [e1, F.F (by decide), e2]
  · have e1 : hD (bkH τ) 82 k = hD τ 92 k := pw_lo (f := hD τ 82) (g := hD τ 92) (n := 20) a b
    have e2 : hD (kpH σ) 92 k = hD σ 82 k := pw_lo (f := hD σ 92) (g := hD σ 82) (n := 20) a b
    rw [e1, F.D (by decide), e2]
  · have e1 : hF (bkH τ) 83 k = hF τ 93 k := pw_lo (f := hF τ 83) (g := hF τ 93) (n := 20) a b
    have e2 : hF (kpH σ) 93 k = hF σ 83 k := pw_lo (f := hF σ 93) (g := hF σ 83) (n := 20) a b
    rw [e1, F.F (by decide), e2]
  · have e1 : hI (bkH τ) 86 k = hI τ 96 k := pw_lo (f := hI τ 86) (g := hI τ 96) (n := 20) a b
    have e2 : hI (kpH σ) 96 k = hI σ 86 k := pw_lo (f := hI σ 96) (g := hI σ 86) (n := 20) a b
    rw [e1, F.I (by decide), e2]
  · have e1 : hI (bkH τ) 87 k = hI τ 97 k := pw_lo (f := hI τ 87) (g := hI τ 97) (n := 20) a b
    have e2 : hI (kpH σ) 97 k = hI σ 87 k := pw_lo (f := hI σ 97) (g := hI σ 87) (n := 20) a b
    rw [e1, F.I (by decide), e2]
  · have e1 : hD (bkH τ) 88 k = hD τ 98 k := pw_lo (f := hD τ 88) (g := hD τ 98) (n := 20) a b
    have e2 : hD (kpH σ) 98 k = hD σ 88 k := pw_lo (f := hD σ 98) (g := hD σ 88) (n := 20) a b
    rw [e1, F.D (by decide), e2]
  · have e1 : hD (bkH τ) 89 k = hD τ 99 k := pw_lo (f := hD τ 89) (g := hD τ 99) (n := 20) a b
    have e2 : hD (kpH σ) 99 k = hD σ 89 k := pw_lo (f := hD σ 99) (g := hD σ 89) (n := 20) a b
    rw [e1, F.D (by decide), e2]
  · have e1 : hD (bkH τ) 84 k = hD τ 94 k := pw_lo (f := hD τ 84) (g := hD τ 94) (n := 320) a b
    have e2 : hD (kpH σ) 94 k = hD σ 84 k := pw_lo (f := hD σ 94) (g := hD σ 84) (n := 320) a b
    rw [e1, F.D (by decide), e2]
  · have e1 : hF (bkH τ) 85 k = hF τ 95 k := pw_lo (f := hF τ 85) (g := hF τ 95) (n := 320) a b
    have e2 : hF (kpH σ) 95 k = hF σ 85 k := pw_lo (f := hF σ 95) (g := hF σ 85) (n := 320) a b
    rw [e1, F.F (by decide), e2]
end RBK
