/-! ===== what a step leaves as it was ===== -/
section REF29
variable {σ : Hp} {N : Nat}
theorem midH_I70 {t : UInt64} {r : Int} : hI (midH σ N t r) 70 = hI σ 70 := by
  unfold midH
  by_cases h0 : r = 0
  · rw [if_pos h0]; rfl
  · rw [if_neg h0]
    by_cases h1 : r = 1
    · rw [if_pos h1]; rfl
    · rw [if_neg h1]; rfl
theorem endH_I70 : hI (endH σ N) 70 = hI σ 70 := rfl
theorem s0H_I70 : hI (s0H σ N) 70 = hI σ 70 := rfl
theorem stepH_I70 : hI (stepH σ N) 70 = hI σ 70 := by
  unfold stepH
  rw [endH_I70, midH_I70, s0H_I70]
theorem midH_I72 {t : UInt64} {r : Int} : hI (midH σ N t r) 72 = hI σ 72 := by
  unfold midH
  by_cases h0 : r = 0
  · rw [if_pos h0]; rfl
  · rw [if_neg h0]
    by_cases h1 : r = 1
    · rw [if_pos h1]; rfl
    · rw [if_neg h1]; rfl
theorem endH_I72 : hI (endH σ N) 72 = hI σ 72 := rfl
theorem s0H_I72 : hI (s0H σ N) 72 = hI σ 72 := rfl
theorem stepH_I72 : hI (stepH σ N) 72 = hI σ 72 := by
  unfold stepH
  rw [endH_I72, midH_I72, s0H_I72]
theorem midH_I73 {t : UInt64} {r : Int} : hI (midH σ N t r) 73 = hI σ 73 := by
  unfold midH
  by_cases h0 : r = 0
  · rw [if_pos h0]; rfl
  · rw [if_neg h0]
    by_cases h1 : r = 1
    · rw [if_pos h1]; rfl
    · rw [if_neg h1]; rfl
theorem endH_I73 : hI (endH σ N) 73 = hI σ 73 := rfl
theorem s0H_I73 : hI (s0H σ N) 73 = hI σ 73 := rfl
theorem stepH_I73 : hI (stepH σ N) 73 = hI σ 73 := by
  unfold stepH
  rw [endH_I73, midH_I73, s0H_I73]
theorem midH_I75 {t : UInt64} {r : Int} : hI (midH σ N t r) 75 = hI σ 75 := by
  unfold midH
  by_cases h0 : r = 0
  · rw [if_pos h0]; rfl
  · rw [if_neg h0]
    by_cases h1 : r = 1
    · rw [if_pos h1]; rfl
    · rw [if_neg h1]; rfl
theorem endH_I75 : hI (endH σ N) 75 = hI σ 75 := rfl
theorem s0H_I75 : hI (s0H σ N) 75 = hI σ 75 := rfl
theorem stepH_I75 : hI (stepH σ N) 75 = hI σ 75 := by
  unfold stepH
  rw [endH_I75, midH_I75, s0H_I75]
theorem midH_I78 {t : UInt64} {r : Int} : hI (midH σ N t r) 78 = hI σ 78 := by
  unfold midH
  by_cases h0 : r = 0
  · rw [if_pos h0]; rfl
  · rw [if_neg h0]
    by_cases h1 : r = 1
    · rw [if_pos h1]; rfl
    · rw [if_neg h1]; rfl
theorem endH_I78 : hI (endH σ N) 78 = hI σ 78 := rfl
theorem s0H_I78 : hI (s0H σ N) 78 = hI σ 78 := rfl
theorem stepH_I78 : hI (stepH σ N) 78 = hI σ 78 := by
  unfold stepH
  rw [endH_I78, midH_I78, s0H_I78]
theorem midH_I79 {t : UInt64} {r : Int} : hI (midH σ N t r) 79 = hI σ 79 := by
  unfold midH
  by_cases h0 : r = 0
  · rw [if_pos h0]; rfl
  · rw [if_neg h0]
    by_cases h1 : r = 1
    · rw [if_pos h1]; rfl
    · rw [if_neg h1]; rfl
theorem endH_I79 : hI (endH σ N) 79 = hI σ 79 := rfl
theorem s0H_I79 : hI (s0H σ N) 79 = hI σ 79 := rfl
theorem stepH_I79 : hI (stepH σ N) 79 = hI σ 79 := by
  unfold stepH
  rw [endH_I79, midH_I79, s0H_I79]
theorem midH_I100 {t : UInt64} {r : Int} : hI (midH σ N t r) 100 = hI σ 100 := by
  unfold midH
  by_cases h0 : r = 0
  · rw [if_pos h0]; rfl
  · rw [if_neg h0]
    by_cases h1 : r = 1
    · rw [if_pos h1]; rfl
    · rw [if_neg h1]; rfl
theorem endH_I100 : hI (endH σ N) 100 = hI σ 100 := rfl
theorem s0H_I100 : hI (s0H σ N) 100 = hI σ 100 := rfl
theorem stepH_I100 : hI (stepH σ N) 100 = hI σ 100 := by
  unfold stepH
  rw [endH_I100, midH_I100, s0H_I100]
theorem midH_I101 {t : UInt64} {r : Int} : hI (midH σ N t r) 101 = hI σ 101 := by
  unfold midH
  by_cases h0 : r = 0
  · rw [if_pos h0]; rfl
  · rw [if_neg h0]
    by_cases h1 : r = 1
    · rw [if_pos h1]; rfl
    · rw [if_neg h1]; rfl
theorem endH_I101 : hI (endH σ N) 101 = hI σ 101 := rfl
theorem s0H_I101 : hI (s0H σ N) 101 = hI σ 101 := rfl
theorem stepH_I101 : hI (stepH σ N) 101 = hI σ 101 := by
  unfold stepH
  rw [endH_I101, midH_I101, s0H_I101]
theorem midH_D71 {t : UInt64} {r : Int} : hD (midH σ N t r) 71 = hD σ 71 := by
  unfold midH
  by_cases h0 : r = 0
  · rw [if_pos h0]; rfl
  · rw [if_neg h0]
    by_cases h1 : r = 1
    · rw [if_pos h1]; rfl
    · rw [if_neg h1]; rfl
theorem endH_D71 : hD (endH σ N) 71 = hD σ 71 := rfl
theorem s0H_D71 : hD (s0H σ N) 71 = hD σ 71 := rfl
theorem stepH_D71 : hD (stepH σ N) 71 = hD σ 71 := by
  unfold stepH
  rw [endH_D71, midH_D71, s0H_D71]
theorem midH_D74 {t : UInt64} {r : Int} : hD (midH σ N t r) 74 = hD σ 74 := by
  unfold midH
  by_cases h0 : r = 0
  · rw [if_pos h0]; rfl
  · rw [if_neg h0]
    by_cases h1 : r = 1
    · rw [if_pos h1]; rfl
    · rw [if_neg h1]; rfl
theorem endH_D74 : hD (endH σ N) 74 = hD σ 74 := rfl
theorem s0H_D74 : hD (s0H σ N) 74 = hD σ 74 := rfl
theorem stepH_D74 : hD (stepH σ N) 74 = hD σ 74 := by
  unfold stepH
  rw [endH_D74, midH_D74, s0H_D74]
theorem midH_D76 {t : UInt64} {r : Int} : hD (midH σ N t r) 76 = hD σ 76 := by
  unfold midH
  by_cases h0 : r = 0
  · rw [if_pos h0]; rfl
  · rw [if_neg h0]
    by_cases h1 : r = 1
    · rw [if_pos h1]; rfl
    · rw [if_neg h1]; rfl
theorem endH_D76 : hD (endH σ N) 76 = hD σ 76 := rfl
theorem s0H_D76 : hD (s0H σ N) 76 = hD σ 76 := rfl
theorem stepH_D76 : hD (stepH σ N) 76 = hD σ 76 := by
  unfold stepH
  rw [endH_D76, midH_D76, s0H_D76]
theorem midH_D77 {t : UInt64} {r : Int} : hD (midH σ N t r) 77 = hD σ 77 := by
  unfold midH
  by_cases h0 : r = 0
  · rw [if_pos h0]; rfl
  · rw [if_neg h0]
    by_cases h1 : r = 1
    · rw [if_pos h1]; rfl
    · rw [if_neg h1]; rfl
theorem endH_D77 : hD (endH σ N) 77 = hD σ 77 := rfl
theorem s0H_D77 : hD (s0H σ N) 77 = hD σ 77 := rfl
theorem stepH_D77 : hD (stepH σ N) 77 = hD σ 77 := by
  unfold stepH
  rw [endH_D77, midH_D77, s0H_D77]
theorem midH_D89 {t : UInt64} {r : Int} : hD (midH σ N t r) 89 = hD σ 89 := by
  unfold midH
  by_cases h0 : r = 0
  · rw [if_pos h0]; rfl
  · rw [if_neg h0]
    by_cases h1 : r = 1
    · rw [if_pos h1]; rfl
    · rw [if_neg h1]; rfl
theorem endH_D89 : hD (endH σ N) 89 = hD σ 89 := rfl
theorem s0H_D89 : hD (s0H σ N) 89 = hD σ 89 := rfl
theorem stepH_D89 : hD (stepH σ N) 89 = hD σ 89 := by
  unfold stepH
  rw [endH_D89, midH_D89, s0H_D89]
theorem midH_D102 {t : UInt64} {r : Int} : hD (midH σ N t r) 102 = hD σ 102 := by
  unfold midH
  by_cases h0 : r = 0
  · rw [if_pos h0]; rfl
  · rw [if_neg h0]
    by_cases h1 : r = 1
    · rw [if_pos h1]; rfl
    · rw [if_neg h1]; rfl
theorem endH_D102 : hD (endH σ N) 102 = hD σ 102 := rfl
theorem s0H_D102 : hD (s0H σ N) 102 = hD σ 102 := rfl
theorem stepH_D102 : hD (stepH σ N) 102 = hD σ 102 := by
  unfold stepH
  rw [endH_D102, midH_D102, s0H_D102]
theorem midH_D103 {t : UInt64} {r : Int} : hD (midH σ N t r) 103 = hD σ 103 := by
  unfold midH
  by_cases h0 : r = 0
  · rw [if_pos h0]; rfl
  · rw [if_neg h0]
    by_cases h1 : r = 1
    · rw [if_pos h1]; rfl
    · rw [if_neg h1]; rfl
theorem endH_D103 : hD (endH σ N) 103 = hD σ 103 := rfl
theorem s0H_D103 : hD (s0H σ N) 103 = hD σ 103 := rfl
theorem stepH_D103 : hD (stepH σ N) 103 = hD σ 103 := by
  unfold stepH
  rw [endH_D103, midH_D103, s0H_D103]
def ltH (σ : Hp) : Hp := wI σ 69 (fup (hI σ 69) 44 (hI σ 69 12 + 1))
def spH (σ : Hp) : Hp := wI σ 69 (fup (hI σ 69) 15 (hI σ 69 15 + 1))
def oneH (σ : Hp) (N S : Nat) : Hp := tsH (spH (stepH (ltH σ) N)) S
theorem oneH_69I {S : Nat} : hI (oneH σ N S) 69 = fup (fup (fup (hI σ 69) 44 (hI σ 69 12 + 1)) 12 (hI σ 69 12 + 1)) 15 (hI σ 69 15 + 1) := by
  have e : hI (oneH σ N S) 69 = fup (hI (stepH (ltH σ) N) 69) 15 (hI (stepH (ltH σ) N) 69 15 + 1) := rfl
  rw [e, stepH_69I]
  have e1 : hI (ltH σ) 69 = fup (hI σ 69) 44 (hI σ 69 12 + 1) := rfl
  rw [e1]
  rw [fup_n (show (15 : Int) ≠ 12 by decide), fup_n (show (15 : Int) ≠ 44 by decide), fup_n (show (12 : Int) ≠ 44 by decide)]
end REF29
