/-! ===== class and reference: run ===== -/
section RRX
variable {σ τ : Hp} {N S : Nat}
theorem hd_cm {k : Nat} (em : mdl τ = mdl σ) : hdH τ k = cm τ (hdH σ k) := by
  have e := cm_hd (κ := τ) (μ := σ) (k := k)
  rw [cm_of em] at e
  exact e
theorem run_call {Q : Option PV → Hp → Prop} {n : Int} {k : Nat} (h : RlN σ N S) (em : mdl τ = mdl σ) (hk : hI σ 69 14 = k) (hn : inR n) (h1 : ¬ (1 ≤ n ∧ n ≤ 100) → Q (some (vI (-102))) τ) (h2 : (1 ≤ n ∧ n ≤ 100) → hI σ 69 11 = 0 → Q (some (vI (-103))) τ) (h3 : (1 ≤ n ∧ n ≤ 100) → ¬ hI σ 69 11 = 0 → ¬ (hI σ 69 12 + n ≤ 300 ∧ rmS σ S n) → Q (some (vI (-104))) τ)
    (h4 : (1 ≤ n ∧ n ≤ 100) → ¬ hI σ 69 11 = 0 → (hI σ 69 12 + n ≤ 300 ∧ rmS σ S n) → WS (cm τ (rnR N S n.toNat (hdH σ k) n).2) N → Zr (cm τ (rnR N S n.toNat (hdH σ k) n).2) N → Q (some (vI (rnR N S n.toNat (hdH σ k) n).1)) (cm τ (rnR N S n.toNat (hdH σ k) n).2)) : Sp mM_run [vR 69, vI n] τ Q := by
  obtain ⟨rI, rF, rD⟩ := row_md em
  obtain ⟨hA, hB, hP, hLa, hS, hW, hM, hO⟩ := h
  have n20 := hA.1.2.2
  have hs : Sc τ := by
    unfold Sc
    rw [rI 69 (by decide)]; exact hA.sc
  have k20 := hA.2.2.2.2.2.2.1
  refine cM_run2 (N := N) (S := S) (k := k) hs hn (by rw [rI 69 (by decide)]; exact hA.2.1.2.1) (by rw [rI 69 (by decide)]; exact ⟨hk, by omega⟩) (by rw [rI 69 (by decide)]; exact hA.2.2.2.1.2) (fun s x y => by rw [rI 101 (by decide)]; exact (hS.2.2.2.1 s x y).1) h1 (fun a b => h2 a (by rw [rI 69 (by decide)] at b; exact b)) (fun a b c => h3 a (by rw [rI 69 (by decide)] at b; exact b) (by unfold rmS at c ⊢; rw [rI 69 (by decide), rI 101 (by decide)] at c; exact c)) (fun a b c => ?_)
  rw [rI 69 (by decide)] at b
  have c2 : hI σ 69 12 + n ≤ 300 ∧ rmS σ S n := by unfold rmS at c ⊢; rw [rI 69 (by decide), rI 101 (by decide)] at c; exact c
  obtain ⟨o1, o2, o3, o4, o5, o6, o7, o8⟩ := hO b
  have w := ws_md o4 em
  refine ⟨⟨?_, ?_, ?_, ?_, ?_, ?_, ?_, fun s x y => ?_⟩, ?_⟩
  · obtain ⟨⟨w1, w2, w3, w4, w5, w6, w7⟩, w8, w9⟩ := w
    refine ⟨⟨?_, w2, w3, w4, ?_, w6, w7⟩, w8, w9⟩
    · show fup (hI τ 69) 11 2 0 = N
      rw [fup_n (by decide)]; exact w1
    · show inR (fup (hI τ 69) 11 2 44)
      rw [fup_n (by decide)]; exact w5
  · have z : Zr τ N := by
      unfold Zr
      rw [rI 70 (by decide), rD 115 (by decide), rF 116 (by decide)]; exact hM.2.1
    exact z
  · show mg (fup (hD τ 69) 45 (lenD k) 45) 1023
    rw [fup_s]; exact lenD_1023 k (by omega) (by omega)
  · show 0 ≤ fup (hI τ 69) 11 2 13 ∧ fup (hI τ 69) 11 2 13 ≤ 2
    rw [fup_n (by decide), rI 69 (by decide)]; exact hA.2.2.2.2.2.1.2
  · show fup (hI τ 69) 11 2 37 = S ∧ S ≤ 6
    rw [fup_n (by decide), rI 69 (by decide)]; exact hA.2.1.2
  · show 0 ≤ fup (hI τ 69) 11 2 12 ∧ fup (hI τ 69) 11 2 12 + (n.toNat : Int) ≤ 300
    rw [fup_n (by decide), rI 69 (by decide)]
    have := hA.2.2.2.1.2
    omega
  · show ∀ m : Int, 0 ≤ m → m < N → inR (hI τ 78 m)
    rw [rI 78 (by decide)]
    intro m x y
    have := hP.2.2.2.2.2.2.2.2.2 m x (by omega)
    constructor <;> omega
  · show (0 ≤ hI τ 101 s ∧ hI τ 101 s + (n.toNat : Int) ≤ 120) ∧ (0 ≤ hI τ 100 s ∧ hI τ 100 s < 20)
    rw [rI 101 (by decide), rI 100 (by decide)]
    have q := hS.2.2.2.1 s x y
    have r := c2.2 s x y
    omega
  · rw [hd_cm em, cm_rn]
    exact h4 a b c2
/-- the run so far: the class at τ, the reference at μ -/
abbrev RnV (σ : Hp) (N S k : Nat) (n : Int) (f : Nat) (τ μ : Hp) : Prop := RlX (cm τ μ) N S ∧ hI μ 69 11 = 2 ∧ hD μ 69 45 = lenD k ∧ hI μ 69 14 = k ∧ hI μ 69 12 + f ≤ 300 ∧ (∀ s : Int, 0 ≤ s → s < S → hI μ 101 s + f ≤ 120) ∧ rnR N S n.toNat (hdH σ k) n = rnR N S f μ n
theorem run_end {n v : Int} {k f : Nat} {μ : Hp} (h : RlN σ N S) (em : mdl τ = mdl σ) (hk : hI σ 69 14 = k) (hn : inR n) (a : 1 ≤ n ∧ n ≤ 100) (b : ¬ hI σ 69 11 = 0) (c : hI σ 69 12 + n ≤ 300 ∧ rmS σ S n) (hV : RnV σ N S k n f τ μ) (e : rnR N S f μ n = (v, μ)) : ∃ v' : Int, some (vI v) = some (vI v') ∧ Sp mM_run [vR 69, vI n] τ (fun r2 ω => r2 = some (vI v') ∧ Rel ω) := by
  obtain ⟨hX, _, _, _, _, _, hr⟩ := hV
  refine ⟨v, rfl, run_call h em hk hn (fun q => absurd a q) (fun _ q => absurd q b) (fun _ _ q => absurd c q) (fun _ _ _ w z => ?_)⟩
  rw [hr, e] at w z ⊢
  exact ⟨rfl, N, S, hX.to w z⟩
end RRX
