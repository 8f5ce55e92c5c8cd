/-! ===== class and reference: mode ===== -/
section RMO
variable {σ τ ν : Hp} {N S : Nat}
theorem mo_call {Q : Option PV → Hp → Prop} {m : Int} (h : RlN τ N S) (em : mdl ν = mdl τ) (hm : inR m) (h1 : ¬ (0 ≤ m ∧ m ≤ 1) → Q (some (vI (-102))) ν) (h2 : m = 1 → ¬ (chk (hI τ 70) (hI τ 72) (hI τ 75) N).1 = 0 → ∀ re, Q (some (vI (-103))) (wI ν 104 re)) (h3 : m = 0 → Q (some (vI (hI τ 69 11))) (wI ν 69 (fup (hI ν 69) 11 0)))
    (h4 : m = 1 → (chk (hI τ 70) (hI τ 72) (hI τ 75) N).1 = 0 → ∀ re, WS (moH ν N S re) N → Zr (moH ν N S re) N → Q (some (vI (hI τ 69 11))) (moH ν N S re)) : Sp mM_mode [vR 69, vI m] ν Q := by
  obtain ⟨rI, rF, rD⟩ := row_md em
  have hwp := RlN.wp h
  have hkd := RlN.kd h
  have hpt := RlN.pts h
  obtain ⟨hA, hB, hP, hLa, hS, hW, hM, hO⟩ := h
  have n20 := hA.1.2.2
  have hs : Sc ν := by
    unfold Sc
    rw [rI 69 (by decide)]; exact hA.sc
  have hc : CdN (hI ν 72) N := by rw [rI 72 (by decide)]; exact hP.2.2.1
  have hr : RdR ν := by
    unfold RdR
    rw [rD 82 (by decide), rF 83 (by decide), rD 80 (by decide), rF 81 (by decide), rD 84 (by decide), rF 85 (by decide)]; exact hM.1
  have hz : Zr ν N := by
    unfold Zr
    rw [rI 70 (by decide), rD 115 (by decide), rF 116 (by decide)]; exact hM.2.1
  have cb := chk_b (hI τ 70) (hI τ 72) (hI τ 75) N
  refine cM_mode (N := N) (S := S) hs hm (by rw [rI 69 (by decide)]; exact hA.1.2.1) (by rw [rI 69 (by decide)]; exact hA.2.1.2.1) hc (fun k x y => ?_) hr hz (fun s x y => ?_) (fun q => ?_) ?_ h1 (fun a b => ?_) (fun a => ?_) (fun a b => ?_)
  · rw [rI 70 (by decide), rI 75 (by decide)]; exact ⟨(hP.1 k x y).1, hpt k x y⟩
  · rw [rI 100 (by decide)]; have := (hS.2.2.2.1 s x y).2; omega
  · rw [rI 70 (by decide), rI 72 (by decide), rI 75 (by decide)] at q
    have h1 : WP (mdl τ) N := hwp q
    rw [← em] at h1
    exact h1
  · rw [rI 70 (by decide), rI 72 (by decide), rI 75 (by decide)]; constructor <;> omega
  · rw [rI 70 (by decide), rI 72 (by decide), rI 75 (by decide)] at b; exact h2 a b
  · have := h3 a
    rw [← rI 69 (by decide)] at this
    exact this
  · rw [rI 70 (by decide), rI 72 (by decide), rI 75 (by decide)] at b
    have := h4 a b
    rw [← rI 69 (by decide)] at this
    exact this
theorem pr_mode {m : Int} (h : Rel σ) (hm : inR m) : PrI mX_mode mM_mode [vI m] σ := by
  have h0 := h
  obtain ⟨N, S, hN⟩ := h0
  have hA := hN.1
  have hB := hN.2.1
  have hpt := RlN.pts hN
  have ck := chk_iff (hI σ 70) (hI σ 72) (hI σ 75) N
  rw [← hB.1, ← hB.2.2.2.2.2.2.2.1] at ck
  have e09 := hA.2.2.1.1
  refine cX_mode hm hN.ct (by rw [hB.2.2.2.2.2.2.2.1]; exact hpt) hN.l01 hN.lev (fun g => ⟨_, rfl, mo_call hN rfl hm (fun _ => ⟨rfl, h⟩) (fun q => absurd (Or.inr q) g) (fun q => absurd (Or.inl q) g) (fun q => absurd (Or.inr q) g)⟩) (fun g z τ r => ⟨_, rfl, ?_⟩) (fun g => ⟨_, rfl, ?_⟩) (fun g z τ r Q' hQ' => ?_)
  · have hT := Rel_lv hN r
    have k1 : chk (hI τ 70) (hI τ 72) (hI τ 75) N = chk (hI σ 4) (hI σ 72) (hI σ 11) N := by
      rw [r.1.I (c := 70) (by decide), r.1.I (c := 72) (by decide), r.1.I (c := 75) (by decide), hB.1, hB.2.2.2.2.2.2.2.1]
    exact mo_call hT rfl hm (fun q => absurd (by omega) q) (fun _ _ re => ⟨rfl, N, S, hT⟩) (fun q => by omega) (fun _ q => absurd (ck.mp (by rw [← k1]; exact q)) z)
  · refine mo_call (τ := σ) hN (mdl_eq (S := [0]) (FqO.rf.wI (by decide)) (by decide)) hm (fun q => absurd (by omega) q) (fun q => by omega) (fun _ => ⟨by rw [e09], N, S, ?_⟩) (fun q => by omega)
    obtain ⟨hA, hB, hP, hLa, hS, hW, hM, hO⟩ := hN
    refine ⟨?_, hB, hP, hLa, hS, hW, hM, fun o => ?_⟩
    · unfold RlA at hA ⊢
      simp only [hI_wI]
      simp [fup]
      omega
    · have o : ¬ fup (hI σ 69) 11 0 11 = 0 := o
      rw [fup_s] at o
      exact absurd rfl o
  · have hT := Rel_lv hN r
    have k1 : chk (hI τ 70) (hI τ 72) (hI τ 75) N = chk (hI σ 4) (hI σ 72) (hI σ 11) N := by
      rw [r.1.I (c := 70) (by decide), r.1.I (c := 72) (by decide), r.1.I (c := 75) (by decide), hB.1, hB.2.2.2.2.2.2.2.1]
    have hk : (chk (hI τ 70) (hI τ 72) (hI τ 75) N).1 = 0 := by rw [k1]; exact ck.mpr z
    refine st_class hT r.2.2.1 hk (fun rD rF ν s => hQ' ν ⟨_, rfl, ?_⟩)
    have em := mdl_eq s.1.1 (by decide)
    refine mo_call hT em hm (fun q => absurd (by omega) q) (fun _ q => absurd hk q) (fun q => by omega) (fun _ _ re w z2 => ⟨?_, N, S, st_post hT r.2.2.1 hk s w z2⟩)
    rw [r.1.I (c := 69) (by decide), e09]
end RMO
