/-! ===== what else is remembered ===== -/
section GO
variable {α : Type}
/-- row m (n places, oldest first) with v behind -/
def shf (f : Int → α) (m n : Int) (v : α) : Int → α := fun j => if 16 * m ≤ j ∧ j < 16 * m + n - 1 then f (j + 1) else if j = 16 * m + n - 1 then v else f j
def shk (f : Int → α) (m k : Int) : Int → α := fun j => if 16 * m ≤ j ∧ j < 16 * m + k then f (j + 1) else f j
theorem shk_0 (f : Int → α) (m : Int) : shk f m 0 = f := by
  funext j; unfold shk; rw [if_neg (by omega)]
theorem shk_s {f : Int → α} {m k : Int} (hk : 0 ≤ k) : fup (shk f m k) (16 * m + k) (shk f m k (16 * m + k + 1)) = shk f m (k + 1) := by
  funext j; unfold fup shk
  by_cases h : j = 16 * m + k
  · subst h
    rw [if_pos rfl, if_neg (by omega), if_pos (by omega)]
  · rw [if_neg h]
    by_cases h2 : 16 * m ≤ j ∧ j < 16 * m + k
    · rw [if_pos h2, if_pos (by omega)]
    · rw [if_neg h2, if_neg (by omega)]
theorem shk_e {f : Int → α} {m n : Int} {v : α} : fup (shk f m (n - 1)) (16 * m + n - 1) v = shf f m n v := by
  funext j; unfold fup shk shf
  by_cases h : j = 16 * m + n - 1
  · subst h
    rw [if_pos rfl, if_neg (by omega), if_pos rfl]
  · rw [if_neg h]
    by_cases h2 : 16 * m ≤ j ∧ j < 16 * m + n - 1
    · rw [if_pos (by omega), if_pos h2]
    · rw [if_neg (by omega), if_neg h2, if_neg h]
/-- all rows, moved on -/
def rowS (kd nn : Int → Int) (f nx : Int → α) : Int → α := fun j => if kd (j / 16) = 11 then shf f (j / 16) (nn (j / 16)) (nx (j / 16)) j else f j
theorem rowS_y {kd nn : Int → Int} {f nx : Int → α} {i : Nat} (h : kd i = 11) (hn : 1 ≤ nn i ∧ nn i ≤ 16) : pw f (rowS kd nn f nx) (16 * (i + 1)) = shf (pw f (rowS kd nn f nx) (16 * i)) i (nn i) (nx i) := by
  funext j
  by_cases h1 : 0 ≤ j ∧ j < (16 * i : Nat)
  · have e : shf (pw f (rowS kd nn f nx) (16 * i)) i (nn i) (nx i) j = pw f (rowS kd nn f nx) (16 * i) j := by
      unfold shf; rw [if_neg (by omega), if_neg (by omega)]
    rw [e, pw_lo h1.1 h1.2, pw_lo h1.1 (by omega)]
  · by_cases h2 : (16 * i : Nat) ≤ j ∧ j < (16 * (i + 1) : Nat)
    · rw [pw_lo (by omega) h2.2]
      have e : j / 16 = (i : Int) := by omega
      unfold rowS
      rw [e, if_pos h]
      unfold shf
      by_cases h3 : 16 * (i : Int) ≤ j ∧ j < 16 * (i : Int) + nn i - 1
      · rw [if_pos h3, if_pos h3, pw_hi (by omega)]
      · rw [if_neg h3, if_neg h3]
        by_cases h4 : j = 16 * (i : Int) + nn i - 1
        · rw [if_pos h4, if_pos h4]
        · rw [if_neg h4, if_neg h4, pw_hi (by omega)]
    · have e : shf (pw f (rowS kd nn f nx) (16 * i)) i (nn i) (nx i) j = pw f (rowS kd nn f nx) (16 * i) j := by
        unfold shf; rw [if_neg (by omega), if_neg (by omega)]
      rw [e]
      unfold pw
      rw [if_neg (by omega), if_neg (by omega)]
theorem rowS_n {kd nn : Int → Int} {f nx : Int → α} {i : Nat} (h : ¬ kd i = 11) : pw f (rowS kd nn f nx) (16 * i) = pw f (rowS kd nn f nx) (16 * (i + 1)) := by
  funext j
  by_cases h1 : 0 ≤ j ∧ j < (16 * i : Nat)
  · rw [pw_lo h1.1 h1.2, pw_lo h1.1 (by omega)]
  · by_cases h2 : (16 * i : Nat) ≤ j ∧ j < (16 * (i + 1) : Nat)
    · rw [pw_lo (n := 16 * (i + 1)) (by omega) h2.2, pw_hi (by omega)]
      have e : j / 16 = (i : Int) := by omega
      unfold rowS
      rw [e, if_neg h]
    · unfold pw
      rw [if_neg (by omega), if_neg (by omega)]
/-- the states behind a step of what is not gathered -/
def othS (kd : Int → Int) (nx st : Int → α) (z : Int → α) : Int → α := fun m => if kd m = 3 then nx m else if kd m = 13 then z m else st m
end GO
def sdS (kd sd : Int → Int) : Int → Int := fun m => if kd m = 13 then 1664525 * sd m + 1013904223 else sd m
section REF9
variable {σ : Hp} {Q : Option PV → Hp → Prop}
def oH (σ : Hp) (a : Int → UInt64) (b : Int → UInt32) (c : Int → UInt64) (d : Int → UInt32) (e : Int → Int) : Hp := wI (wF (wD (wF (wD σ 80 a) 81 b) 84 c) 85 d) 86 e
def nnR (σ : Hp) : Int → Int := fun m => (FP.d2i (hD σ 71 m)).toInt
def otH (σ : Hp) (N : Nat) : Hp := oH σ (pw (hD σ 80) (othS (hI σ 70) (hD σ 113) (hD σ 80) (fun m => nz (sdS (hI σ 70) (hI σ 86) m))) N) (pw (hF σ 81) (othS (hI σ 70) (hF σ 114) (hF σ 81) (fun m => FP.d2f (nz (sdS (hI σ 70) (hI σ 86) m)))) N)
  (pw (hD σ 84) (rowS (hI σ 70) (nnR σ) (hD σ 84) (hD σ 113)) (16 * N)) (pw (hF σ 85) (rowS (hI σ 70) (nnR σ) (hF σ 85) (hF σ 114)) (16 * N)) (pw (hI σ 86) (sdS (hI σ 70) (hI σ 86)) N)
theorem otH_0 : otH σ 0 = σ := by
  unfold otH oH
  rw [pw_0, pw_0, show 16 * 0 = 0 from rfl, pw_0, pw_0, pw_0, wD_id]
  rw [show wF σ 81 (hF σ 81) = σ from wF_id σ 81, wD_id, wF_id, wI_id]
theorem oH_st {a a' : Int → UInt64} {b b' : Int → UInt32} {c : Int → UInt64} {d : Int → UInt32} {e : Int → Int} : wF (wD (oH σ a b c d e) 80 a') 81 b' = oH σ a' b' c d e := by
  unfold oH
  apply hp_ext <;> intro x <;> simp only [hI_wI, hI_wL, hI_wF, hI_wD, hL_wI, hL_wL, hL_wF, hL_wD, hF_wI, hF_wL, hF_wF, hF_wD, hD_wI, hD_wL, hD_wF, hD_wD]
  · by_cases h1 : x = 81 <;> by_cases h2 : x = 85 <;> simp_all
  · by_cases h1 : x = 80 <;> by_cases h2 : x = 84 <;> simp_all
theorem oH_rw {a : Int → UInt64} {b : Int → UInt32} {c c' : Int → UInt64} {d d' : Int → UInt32} {e : Int → Int} : wF (wD (oH σ a b c d e) 84 c') 85 d' = oH σ a b c' d' e := by
  unfold oH
  apply hp_ext <;> intro x <;> simp only [hI_wI, hI_wL, hI_wF, hI_wD, hL_wI, hL_wL, hL_wF, hL_wD, hF_wI, hF_wL, hF_wF, hF_wD, hD_wI, hD_wL, hD_wF, hD_wD]
  · by_cases h1 : x = 81 <;> by_cases h2 : x = 85 <;> simp_all
  · by_cases h1 : x = 80 <;> by_cases h2 : x = 84 <;> simp_all
theorem oH_sd {a a' : Int → UInt64} {b b' : Int → UInt32} {c : Int → UInt64} {d : Int → UInt32} {e e' : Int → Int} : wF (wD (wI (oH σ a b c d e) 86 e') 80 a') 81 b' = oH σ a' b' c d e' := by
  unfold oH
  apply hp_ext <;> intro x <;> simp only [hI_wI, hI_wL, hI_wF, hI_wD, hL_wI, hL_wL, hL_wF, hL_wD, hF_wI, hF_wL, hF_wF, hF_wD, hD_wI, hD_wL, hD_wF, hD_wD]
  · by_cases h1 : x = 86 <;> simp_all
  · by_cases h1 : x = 81 <;> by_cases h2 : x = 85 <;> simp_all
  · by_cases h1 : x = 80 <;> by_cases h2 : x = 84 <;> simp_all
theorem cM_others {N : Nat} (hN : hI σ 69 0 = N ∧ N ≤ 20) (hc : ∀ m : Int, 0 ≤ m → m < N → inR (hI σ 70 m) ∧ (hI σ 70 m = 11 → 1 ≤ nnR σ m ∧ nnR σ m ≤ 16)) (hQ : Q none (otH σ N)) : Sp mM_others [vR 69] σ Q := by
  obtain ⟨hN, hN2⟩ := hN
  have loop : ∀ (n i : Nat), i ≤ N → N + 1 ≤ i + n → J mM_others 2 [(0, vR 69), (1, vI i)] [] (otH σ i) Q := by
    intro n
    induction n with
    | zero => intro i h1 h2; exact absurd h2 (by omega)
    | succ n ih =>
      intro i h1 h2
      have eN : hI (otH σ i) 69 0 = N := hN
      have eK : hI (otH σ i) 70 = hI σ 70 := rfl
      have hci : i < N → inR (hI σ 70 i) ∧ (hI σ 70 i = 11 → 1 ≤ nnR σ i ∧ nnR σ i ≤ 16) := fun h => hc i (by omega) (by omega)
      have ih2 : i < N → J mM_others 2 [(0, vR 69), (1, vI (i + 1))] [] (otH σ (i + 1)) Q := fun h => ih (i + 1) (by omega) (by omega)
      have trk : hI σ 70 i = 3 → otH σ (i + 1) = wF (wD (otH σ i) 80 (fup (hD (otH σ i) 80) i (hD σ 113 i))) 81 (fup (hF (otH σ i) 81) i (hF σ 114 i)) := fun hk => by
        unfold otH
        rw [oH_st, ← pw_s, ← pw_s, ← rowS_n (by omega), ← rowS_n (by omega), ← pw_k (f := hI σ 86) (if_neg (by omega))]
        have e1 : othS (hI σ 70) (hD σ 113) (hD σ 80) (fun m => nz (sdS (hI σ 70) (hI σ 86) m)) i = hD σ 113 i := if_pos hk
        have e2 : othS (hI σ 70) (hF σ 114) (hF σ 81) (fun m => FP.d2f (nz (sdS (hI σ 70) (hI σ 86) m))) i = hF σ 114 i := if_pos hk
        rw [e1, e2]
        rfl
      have non : ¬ hI σ 70 i = 3 → ¬ hI σ 70 i = 11 → ¬ hI σ 70 i = 13 → otH σ i = otH σ (i + 1) := fun hk hk2 hk3 => by
        unfold otH
        rw [rowS_n (i := i) hk2, rowS_n (i := i) hk2, pw_k (i := i) (f := hI σ 86) (if_neg hk3), pw_k (i := i) (f := hD σ 80) (by unfold othS; rw [if_neg hk, if_neg hk3]), pw_k (i := i) (f := hF σ 81) (by unfold othS; rw [if_neg hk, if_neg hk3])]
      have noi : hI σ 70 i = 13 → otH σ (i + 1) = wF (wD (wI (otH σ i) 86 (fup (hI (otH σ i) 86) i (1664525 * hI σ 86 i + 1013904223))) 80 (fup (hD (otH σ i) 80) i (nz (1664525 * hI σ 86 i + 1013904223)))) 81 (fup (hF (otH σ i) 81) i (FP.d2f (nz (1664525 * hI σ 86 i + 1013904223)))) := fun hk => by
        unfold otH
        rw [oH_sd, ← pw_s, ← pw_s, ← rowS_n (by omega), ← rowS_n (by omega), ← pw_s]
        have e0 : sdS (hI σ 70) (hI σ 86) i = 1664525 * hI σ 86 i + 1013904223 := if_pos hk
        have e1 : othS (hI σ 70) (hD σ 113) (hD σ 80) (fun m => nz (sdS (hI σ 70) (hI σ 86) m)) i = nz (sdS (hI σ 70) (hI σ 86) i) := by unfold othS; rw [if_neg (by omega), if_pos hk]
        have e2 : othS (hI σ 70) (hF σ 114) (hF σ 81) (fun m => FP.d2f (nz (sdS (hI σ 70) (hI σ 86) m))) i = FP.d2f (nz (sdS (hI σ 70) (hI σ 86) i)) := by unfold othS; rw [if_neg (by omega), if_pos hk]
        rw [e1, e2, e0]
        rfl
      have eS : hI (otH σ i) 86 i = hI σ 86 i := by
        show pw (hI σ 86) (sdS (hI σ 70) (hI σ 86)) i i = _
        rw [pw_at]
      skip
      sorry
  refine j_iconst (p2 := 1) dM_others_0 rfl ?_
  refine j_istore_n (p2 := 2) (lv' := [(0, _), (1, _)]) dM_others_1 rfl (Nat.le_of_ble_eq_true rfl) ⟨rfl, rfl, trivial⟩ ?_
  refine J.loc (lv' := [(0, _), (1, _)]) ⟨rfl, rfl, trivial⟩ ?_
  exact (loop (N + 1) 0 (by omega) (by omega)).hp otH_0
end REF9
