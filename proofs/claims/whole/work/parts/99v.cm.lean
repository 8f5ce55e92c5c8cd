/-! ===== the class's rows of one heap, the reference's of another ===== -/
def cm (κ μ : Hp) : Hp := (fun c => if c < 69 then κ.1 c else μ.1 c, fun c => if c < 69 then κ.2.1 c else μ.2.1 c, fun c => if c < 69 then κ.2.2.1 c else μ.2.2.1 c, fun c => if c < 69 then κ.2.2.2 c else μ.2.2.2 c)
section CMX
variable {κ μ : Hp} {N S : Nat} {c : Nat}
theorem hI_cm (h : ¬ c < 69) : hI (cm κ μ) c = hI μ c := if_neg h
theorem hL_cm (h : ¬ c < 69) : hL (cm κ μ) c = hL μ c := if_neg h
theorem hF_cm (h : ¬ c < 69) : hF (cm κ μ) c = hF μ c := if_neg h
theorem hD_cm (h : ¬ c < 69) : hD (cm κ μ) c = hD μ c := if_neg h
theorem up1_cm {α : Type} {f g : Nat → Int → α} {x : Int → α} (h : ¬ c < 69) : up1 (fun c => if c < 69 then f c else g c) c x = fun c' => if c' < 69 then f c' else up1 g c x c' := by
  funext c'
  unfold up1
  by_cases e : c' = c
  · subst e; rw [if_pos rfl, if_neg h, if_pos rfl]
  · rw [if_neg e, if_neg e]
theorem wI_cm {g : Int → Int} (h : ¬ c < 69) : wI (cm κ μ) c g = cm κ (wI μ c g) := by
  show (up1 (fun c => if c < 69 then κ.1 c else μ.1 c) c g, _) = (fun c' => if c' < 69 then κ.1 c' else up1 μ.1 c g c', _)
  rw [up1_cm h]; rfl
theorem wL_cm {g : Int → Int64} (h : ¬ c < 69) : wL (cm κ μ) c g = cm κ (wL μ c g) := by
  show (_, up1 (fun c => if c < 69 then κ.2.1 c else μ.2.1 c) c g, _) = (_, fun c' => if c' < 69 then κ.2.1 c' else up1 μ.2.1 c g c', _)
  rw [up1_cm h]; rfl
theorem wF_cm {g : Int → UInt32} (h : ¬ c < 69) : wF (cm κ μ) c g = cm κ (wF μ c g) := by
  show (_, _, up1 (fun c => if c < 69 then κ.2.2.1 c else μ.2.2.1 c) c g, _) = (_, _, fun c' => if c' < 69 then κ.2.2.1 c' else up1 μ.2.2.1 c g c', _)
  rw [up1_cm h]; rfl
theorem wD_cm {g : Int → UInt64} (h : ¬ c < 69) : wD (cm κ μ) c g = cm κ (wD μ c g) := by
  show (_, _, _, up1 (fun c => if c < 69 then κ.2.2.2 c else μ.2.2.2 c) c g) = (_, _, _, fun c' => if c' < 69 then κ.2.2.2 c' else up1 μ.2.2.2 c g c')
  rw [up1_cm h]; rfl
theorem cm_ra : raH (cm κ μ) N = cm κ (raH μ N) := by
  unfold raH
  simp (disch := decide) only [hI_cm, hL_cm, hF_cm, hD_cm, wI_cm, wL_cm, wF_cm, wD_cm]
theorem cm_kr1 : krH1 (cm κ μ) N = cm κ (krH1 μ N) := by
  unfold krH1
  simp (disch := decide) only [hI_cm, hL_cm, hF_cm, hD_cm, wI_cm, wL_cm, wF_cm, wD_cm]
theorem cm_kr2 : krH2 (cm κ μ) N = cm κ (krH2 μ N) := by
  unfold krH2
  simp (disch := decide) only [hI_cm, hL_cm, hF_cm, hD_cm, wI_cm, wL_cm, wF_cm, wD_cm]
theorem cm_kr3 : krH3 (cm κ μ) N = cm κ (krH3 μ N) := by
  unfold krH3
  simp (disch := decide) only [hI_cm, hL_cm, hF_cm, hD_cm, wI_cm, wL_cm, wF_cm, wD_cm]
theorem cm_sg {t : UInt64} : sgH (cm κ μ) t N = cm κ (sgH μ t N) := by
  unfold sgH
  simp (disch := decide) only [hI_cm, hL_cm, hF_cm, hD_cm, wI_cm, wL_cm, wF_cm, wD_cm]
theorem cm_ad : adH (cm κ μ) N = cm κ (adH μ N) := by
  unfold adH
  simp (disch := decide) only [hI_cm, hL_cm, hF_cm, hD_cm, wI_cm, wL_cm, wF_cm, wD_cm]
theorem cm_wg : wgH (cm κ μ) N = cm κ (wgH μ N) := by
  unfold wgH
  simp (disch := decide) only [hI_cm, hL_cm, hF_cm, hD_cm, wI_cm, wL_cm, wF_cm, wD_cm]
theorem cm_ot : otH (cm κ μ) N = cm κ (otH μ N) := by
  unfold otH oH nnR
  simp (disch := decide) only [hI_cm, hL_cm, hF_cm, hD_cm, wI_cm, wL_cm, wF_cm, wD_cm]
theorem cm_tm : tmH (cm κ μ)  = cm κ (tmH μ ) := by
  unfold tmH
  simp (disch := decide) only [hI_cm, hL_cm, hF_cm, hD_cm, wI_cm, wL_cm, wF_cm, wD_cm]
theorem cm_df : dfH (cm κ μ) N = cm κ (dfH μ N) := by
  unfold dfH
  simp (disch := decide) only [hI_cm, hL_cm, hF_cm, hD_cm, wI_cm, wL_cm, wF_cm, wD_cm]
theorem cm_p1 : p1H (cm κ μ) N = cm κ (p1H μ N) := by
  unfold p1H pH
  simp (disch := decide) only [hI_cm, hL_cm, hF_cm, hD_cm, wI_cm, wL_cm, wF_cm, wD_cm]
theorem cm_rd : rdN (cm κ μ) N = cm κ (rdN μ N) := by
  unfold rdN rdH hR rdL rdD rdF evD evF
  simp (disch := decide) only [hI_cm, hL_cm, hF_cm, hD_cm, wI_cm, wL_cm, wF_cm, wD_cm]
theorem cm_ts : tsH (cm κ μ) S = cm κ (tsH μ S) := by
  unfold tsH
  simp (disch := decide) only [hI_cm, hL_cm, hF_cm, hD_cm, wI_cm, wL_cm, wF_cm, wD_cm]
theorem cm_sp : spH (cm κ μ)  = cm κ (spH μ ) := by
  unfold spH
  simp (disch := decide) only [hI_cm, hL_cm, hF_cm, hD_cm, wI_cm, wL_cm, wF_cm, wD_cm]
theorem cm_lt : ltH (cm κ μ)  = cm κ (ltH μ ) := by
  unfold ltH
  simp (disch := decide) only [hI_cm, hL_cm, hF_cm, hD_cm, wI_cm, wL_cm, wF_cm, wD_cm]
theorem cm_hd {k : Nat} : hdH (cm κ μ) k = cm κ (hdH μ k) := by
  unfold hdH
  simp (disch := decide) only [hI_cm, hL_cm, hF_cm, hD_cm, wI_cm, wL_cm, wF_cm, wD_cm]
theorem cm_mid {t : UInt64} {r : Int} : midH (cm κ μ) N t r = cm κ (midH μ N t r) := by
  unfold midH
  by_cases g0 : r = 0
  · rw [if_pos g0, if_pos g0, cm_sg]
  · rw [if_neg g0, if_neg g0]
    by_cases g1 : r = 1
    · rw [if_pos g1, if_pos g1]
      unfold r1H
      rw [cm_sg, cm_rd, cm_ra, cm_ad, cm_sg]
    · rw [if_neg g1, if_neg g1]
      unfold r2H k3H k2H
      rw [cm_sg, cm_rd, cm_ra, cm_kr2, cm_sg, cm_rd, cm_ra, cm_kr3, cm_sg, cm_rd, cm_ra, cm_wg, cm_sg]
theorem cm_step : stepH (cm κ μ) N = cm κ (stepH μ N) := by
  unfold stepH endH s0H
  rw [hD_cm (by decide), hI_cm (by decide), cm_p1, cm_ra, cm_kr1, cm_mid, cm_ot, cm_tm, cm_rd, cm_df]
theorem cm_one : oneH (cm κ μ) N S = cm κ (oneH μ N S) := by
  unfold oneH
  rw [cm_lt, cm_step, cm_sp, cm_ts]
theorem cm_rn {n : Int} : ∀ (f : Nat) (μ : Hp), rnR N S f (cm κ μ) n = ((rnR N S f μ n).1, cm κ (rnR N S f μ n).2)
  | 0, μ => rfl
  | f + 1, μ => by
    unfold rnR
    rw [hI_cm (by decide), hI_cm (by decide)]
    cases fnd (fun m => decide (hI μ 78 m = hI μ 69 12 + 1)) N 0 with
    | some m => rfl
    | none =>
      dsimp only
      rw [cm_one, cm_rn f]
theorem cm_of {τ σ : Hp} (e : mdl τ = mdl σ) : cm τ σ = τ := by
  have h : ∀ c : Nat, ¬ c < 69 → τ.1 c = σ.1 c ∧ τ.2.1 c = σ.2.1 c ∧ τ.2.2.1 c = σ.2.2.1 c ∧ τ.2.2.2 c = σ.2.2.2 c := fun c hc => by
    have e1 : (mdl τ).1 c = (mdl σ).1 c := by rw [e]
    have e2 : (mdl τ).2.1 c = (mdl σ).2.1 c := by rw [e]
    have e3 : (mdl τ).2.2.1 c = (mdl σ).2.2.1 c := by rw [e]
    have e4 : (mdl τ).2.2.2 c = (mdl σ).2.2.2 c := by rw [e]
    unfold mdl at e1 e2 e3 e4
    dsimp only at e1 e2 e3 e4
    rw [if_neg hc, if_neg hc] at e1 e2 e3 e4
    exact ⟨e1, e2, e3, e4⟩
  unfold cm
  refine Prod.ext (funext fun c => ?_) (Prod.ext (funext fun c => ?_) (Prod.ext (funext fun c => ?_) (funext fun c => ?_))) <;> dsimp only <;> by_cases g : c < 69
  · rw [if_pos g]
  · rw [if_neg g]; exact (h c g).1.symm
  · rw [if_pos g]
  · rw [if_neg g]; exact (h c g).2.1.symm
  · rw [if_pos g]
  · rw [if_neg g]; exact (h c g).2.2.1.symm
  · rw [if_pos g]
  · rw [if_neg g]; exact (h c g).2.2.2.symm
end CMX
