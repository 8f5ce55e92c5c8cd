/-! ===== class and reference: run, whole ===== -/
section RRZ
variable {σ τ : Hp} {N S : Nat}
theorem run_first {k : Nat} {n : Int} (h : RlN σ N S) (hk : hI σ 69 14 = k) (b : ¬ hI σ 69 11 = 0) (a : 1 ≤ n ∧ n ≤ 100) (c : hI σ 69 12 + n ≤ 300 ∧ rmS σ S n) : RnV σ N S k n n.toNat (wI σ 0 (fup (hI σ 0) 9 2)) (hdH σ k) := by
  have em : mdl (wI σ 0 (fup (hI σ 0) 9 2)) = mdl σ := mdl_eq (S := [0]) (FqO.rf.wI (by decide)) (by decide)
  have hX := RlX.of h b
  refine ⟨?_, ?_, ?_, ?_, ?_, fun s x y => ?_, rfl⟩
  · rw [← hd_cm em]
    obtain ⟨hA, hB, hP, hLa, hS, hW, ⟨m3, m4, m5, m6⟩, o1, o2, o3, o5, o6, o7, o8⟩ := hX
    have e13 : hI (hdH (wI σ 0 (fup (hI σ 0) 9 2)) k) 69 13 = hI σ 69 13 := by
      show fup (hI σ 69) 11 2 13 = _
      exact fup_n (by decide)
    have p1 : ptD (hdH (wI σ 0 (fup (hI σ 0) 9 2)) k) N = ptD σ N := by
      show (hI σ 70, hD σ 71, hI σ 72, hI σ 73, hD σ 76, hD σ 77, hI σ 75, nnR σ, ords (hI σ 79) N, N, hI (hdH (wI σ 0 (fup (hI σ 0) 9 2)) k) 69 13) = ptD σ N
      rw [e13]; rfl
    have p2 : ptF (hdH (wI σ 0 (fup (hI σ 0) 9 2)) k) N = ptF σ N := by
      show (hI σ 70, xF (hD σ 71), hI σ 72, hI σ 73, xF (hD σ 76), xF (hD σ 77), hI σ 75, nnR σ, ords (hI σ 79) N, N, hI (hdH (wI σ 0 (fup (hI σ 0) 9 2)) k) 69 13) = ptF σ N
      rw [e13]; rfl
    have tw : Tws (hdH (wI σ 0 (fup (hI σ 0) 9 2)) k) (hI σ 72) (hD σ 71) (xF (hD σ 71)) (nnR σ) (ords (hI σ 79) N) N (ptD σ N) (ptF σ N) (tsD σ) (tsF σ) := by
      have F : Fq [0] σ (wI σ 0 (fup (hI σ 0) 9 2)) := Fq.rf.wI (by decide)
      have t0 := tws_fr o5 F (by decide)
      exact t0
    refine ⟨?_, hB, hP, hLa, hS, hW, ⟨m3, m4, m5, m6⟩, o1, o2, o3, ?_, o6, o7, o8⟩
    · unfold RlA at hA ⊢
      unfold hdH
      simp only [hI_wI, hI_wD]
      simp [fup]
      omega
    · rw [p1, p2]
      exact tw
  · show fup (hI σ 69) 11 2 11 = 2
    exact fup_s _ _ _
  · show fup (hD σ 69) 45 (lenD k) 45 = lenD k
    exact fup_s _ _ _
  · show fup (hI σ 69) 11 2 14 = k
    rw [fup_n (by decide)]; exact hk
  · show fup (hI σ 69) 11 2 12 + (n.toNat : Int) ≤ 300
    rw [fup_n (by decide)]; omega
  · show hI σ 101 s + (n.toNat : Int) ≤ 120
    have := c.2 s x y; omega
theorem pr_run {n : Int} (h : Rel σ) (hn : inR n) : PrI mX_run mM_run [vI n] σ := by
  have h0 := h
  obtain ⟨N, S, hN⟩ := h0
  have hN' := hN
  obtain ⟨hA, hB, hP, hLa, hS, hW, hM, hO⟩ := hN'
  have k20 := hA.2.2.2.2.2.2.1
  have tb := hA.2.2.2.1
  have mb := hA.2.2.1
  obtain ⟨k, hk⟩ : ∃ k : Nat, hI σ 69 14 = k := ⟨(hI σ 69 14).toNat, by omega⟩
  have cq : ((hI σ 0 10 + n ≤ 300 ∧ ∀ s : Int, 0 ≤ s → s < S → hI σ 49 s + n ≤ 120) ↔ (hI σ 69 12 + n ≤ 300 ∧ rmS σ S n)) := by
    unfold rmS
    rw [tb.1, hS.2.1]
  refine cX_run (N := N) (S := S) (Inv := fun f τ => (1 ≤ n ∧ n ≤ 100) ∧ ¬ hI σ 69 11 = 0 ∧ (hI σ 69 12 + n ≤ 300 ∧ rmS σ S n) ∧ mdl τ = mdl σ ∧ ∃ μ, RnV σ N S k n f τ μ) hn (by constructor <;> omega) (by omega) ⟨hA.2.1.1, hA.2.1.2.2⟩ (fun s x y => by rw [hS.2.1]; exact (hS.2.2.2.1 s x y).1) (fun g => ⟨_, rfl, run_call hN rfl hk hn (fun _ => ⟨rfl, h⟩) (fun q => absurd q g) (fun q => absurd q g) (fun q => absurd q g)⟩) (fun g z => ⟨_, rfl, run_call hN rfl hk hn (fun q => absurd g q) (fun _ _ => ⟨rfl, h⟩) (fun _ q => absurd (hA.o.mp z) q) (fun _ q => absurd (hA.o.mp z) q)⟩) (fun g z w => ⟨_, rfl, run_call hN rfl hk hn (fun q => absurd g q) (fun _ q => absurd (hA.o.mpr q) z) (fun _ _ _ => ⟨rfl, h⟩) (fun _ _ q => absurd (cq.mpr q) w)⟩) (fun g z w => ⟨g, fun q => z (hA.o.mpr q), cq.mp w, mdl_eq (S := [0]) (FqO.rf.wI (by decide)) (by decide), _, run_first hN hk (fun q => z (hA.o.mpr q)) g (cq.mp w)⟩) (fun f τ hi => ?_) (fun τ hi => ?_)
  · obtain ⟨a, b, c, em, μ, hV⟩ := hi
    have hV' := hV
    obtain ⟨hX, v1, v2, v3, v4, v5, v6⟩ := hV'
    have hX' := hX
    obtain ⟨xA, xB, xP, xL, xS, xW, xM, o1, o2, o3, o5, o6, o7, o8⟩ := hX'
    have n20 := xA.1.2.2
    have y30 : hI τ 3 0 = N := xA.1.1
    have y14 : hI τ 14 = hI μ 78 := xB.2.2.2.2.2.2.2.2.2.2
    have yt : hI τ 0 10 = hI μ 69 12 := xA.2.2.2.1.1
    have yt2 : 0 ≤ hI μ 69 12 ∧ hI μ 69 12 ≤ 300 := xA.2.2.2.1.2
    have y78 : ∀ m : Int, 0 ≤ m → m < 20 → 0 ≤ hI μ 78 m ∧ hI μ 78 m ≤ 300 := xP.2.2.2.2.2.2.2.2.2
    refine ⟨⟨y30, n20⟩, by rw [yt]; constructor <;> omega, fun m x y => ?_, fun m hm => ?_, fun hm Q' hQ' => ?_⟩
    · rw [y14]; have := y78 m x (by omega); constructor <;> omega
    · rw [y14, yt] at hm
      exact run_end hN em hk hn a b c hV (by unfold rnR; rw [hm])
    · rw [y14, yt] at hm
      have w1 : WO (ptD (cm τ μ) N) := wo_of (wp_of xA xP o2) o2 rfl rfl rfl rfl rfl o3
      have hT : Tws τ (hI μ 72) (hD μ 71) (xF (hD μ 71)) (nnR μ) (ords (hI μ 79) N) N (ptD μ N) (ptF μ N) (tsD μ) (tsF μ) := by
        have e := pt_md (N := N) (mdl_cm (τ := τ) (μ := μ))
        rw [e.1, e.2.1, e.2.2.1, e.2.2.2.1, e.2.2.2.2, hI_cm (by decide), hD_cm (by decide), hI_cm (by decide)] at o5
        exact tws_cl o5 cls_cm.symm
      have y32 : hI τ 3 2 = hI μ 69 14 := xA.2.2.2.2.2.2.1.1
      have y31 : hI τ 3 1 = hI μ 69 13 := xA.2.2.2.2.2.1.1
      have y31b : 0 ≤ hI μ 69 13 ∧ hI μ 69 13 ≤ 2 := xA.2.2.2.2.2.1.2
      have y47 : hI τ 47 0 = S := xA.2.1.1
      have y48 : hI τ 48 = hI μ 100 := xS.1
      have y49 : hI τ 49 = hI μ 101 := xS.2.1
      have ysb : ∀ s : Int, 0 ≤ s → s < S → (0 ≤ hI μ 101 s ∧ hI μ 101 s ≤ 120) ∧ 0 ≤ hI μ 100 s ∧ hI μ 100 s < N := xS.2.2.2.1
      have wm : ∀ m : Int, 0 ≤ m → m < N → m ∈ pOr (ptD μ N) := by
        have e := (pt_md (N := N) (mdl_cm (τ := τ) (μ := μ))).1
        rw [e] at w1
        exact w1.2.2.2.1
      refine cX_doStep (k := k) (S := S) hT ⟨by rw [y32]; exact v3, by omega, by omega⟩ (by rw [y31]; exact y31b) (by rw [yt]; omega) ⟨y47, xA.2.1.2.2⟩ (fun s x y => ?_) wm (fun gD gF eD eF ν F hT2 q20 q0 q19 q2 q50 q49 => hQ' ν ⟨a, b, c, ?_, oneH μ N S, ?_⟩)
      · rw [y48, y49]
        have := ysb s x y
        have := v5 s x y
        omega
      · rw [mdl_eq F.1 (by decide)]; exact em
      · have st := x_step (ν := ν) hX v2 (by omega) (fun s x y => by have := v5 s x y; omega) (by rw [v1]; decide) eD eF F hT2 q20 q0 q2 q50 q49
        have fo := fo_one (μ := μ) (N := N) (S := S)
        have i69 := oneH_69I (σ := μ) (N := N) (S := S)
        refine ⟨st, ?_, ?_, ?_, ?_, fun s x y => ?_, ?_⟩
        · rw [i69, fup_n (by decide), fup_n (by decide), fup_n (by decide)]; exact v1
        · have e : hD (oneH μ N S) 69 = hD (stepH (ltH μ) N) 69 := rfl
          rw [e, stepH_69D]; exact v2
        · rw [i69, fup_n (by decide), fup_n (by decide), fup_n (by decide)]; exact v3
        · rw [i69, fup_n (by decide), fup_s]; omega
        · have e : hI (oneH μ N S) 101 s = hI (stepH (ltH μ) N) 101 s + 1 := pw_lo (f := hI (stepH (ltH μ) N) 101) (g := fun s => hI (stepH (ltH μ) N) 101 s + 1) x y
          rw [e, stepH_I101]
          have q := v5 s x y
          show hI μ 101 s + 1 + (f : Int) ≤ 120
          omega
        · rw [v6]
          show (match fnd (fun m => decide (hI μ 78 m = hI μ 69 12 + 1)) N 0 with | some m => (-1000 - m, μ) | none => rnR N S f (oneH μ N S) n) = _
          rw [hm]
  · obtain ⟨a, b, c, em, μ, hV⟩ := hi
    exact run_end hN em hk hn a b c hV rfl
end RRZ
