/-! ===== class and reference: a step ===== -/
theorem wp_of {σ : Hp} {N S : Nat} (hA : RlA σ N S) (hP : RlP σ N) (hk : (chk (hI σ 70) (hI σ 72) (hI σ 75) N).1 = 0) : WP σ N := by
  obtain ⟨p1, p2, p3, p4, p5, p6, p7, p8, p9, p10⟩ := hP
  have hN := hA.1.2.2
  obtain ⟨c1, c2, c3⟩ := chk_0 p3 hk
  refine ⟨hA.1.2.1, hN, p3, fun m x y => ⟨⟨⟨x, by omega⟩, fun j j0 j1 => ⟨?_, p5 _ (by omega) (by omega)⟩, (p1 m x y).1, hin_9 (c1 m x y), fun k => ⟨c2 m x y k, (p6 m x (by omega)).2, p7, p8 m x (by omega)⟩, fun k => (set_bdD (p1 m x y).2.1 (p1 m x y).2.2 k).1, (p1 m x y).2.1⟩, ⟨hin_3 (c1 m x y), fun k => ⟨hin_11 (c1 m x y) k, ?_⟩⟩, p9 m x (by omega)⟩⟩
  · have := p3 m x y j j0 j1
    omega
  · have q := (p1 m x y).2.2
    rw [k] at q
    exact (delay_sc (p1 m x y).2.1 q).1
section RSX
variable {σ τ μ ν : Hp} {N S : Nat}
abbrev RlY (σ : Hp) (N : Nat) : Prop := hI σ 3 3 = 0 ∧ (chk (hI σ 70) (hI σ 72) (hI σ 75) N).1 = 0 ∧ Ag (hI σ 79) (lvC (hI σ 70) (hI σ 72) N) N ∧ Tws σ (hI σ 72) (hD σ 71) (xF (hD σ 71)) (nnR σ) (ords (hI σ 79) N) N (ptD σ N) (ptF σ N) (tsD σ) (tsF σ) ∧ (∀ m : Int, 0 ≤ m → m < N → hD σ 2 m = hD σ 88 m ∧ (hD σ 88 m).toNat < 1030 * 2 ^ 52) ∧ (∀ m : Int, 0 ≤ m → m < N → hL σ 1 m = (if hI σ 70 m = 2 then (hD σ 89 m).toInt64 else 0) ∧ vf_n64 (hD σ 89 m)) ∧ (∀ m : Int, 0 ≤ m → m < N → hD σ 82 m ≠ 9223372036854775808 ∧ hF σ 83 m ≠ 2147483648)
/-- what class and reference have together, in a run -/
abbrev RlX (σ : Hp) (N S : Nat) : Prop := RlA σ N S ∧ RlB σ N ∧ RlP σ N ∧ RlL σ N ∧ RlS σ N S ∧ RlW σ ∧ (Zt σ N ∧ K20 σ ∧ LevR σ (hI σ 72) N ∧ (∀ m : Int, 0 ≤ m → m < 20 → vf_n64 (hD σ 88 m) ∧ vf_n64 (hD σ 89 m))) ∧ RlY σ N
theorem RlX.of (h : RlN σ N S) (o : ¬ hI σ 69 11 = 0) : RlX σ N S := by
  obtain ⟨hA, hB, hP, hLa, hS, hW, ⟨m1, m2, m3, m4, m5, m6⟩, hO⟩ := h
  obtain ⟨o1, o2, o3, o4, o5, o6, o7, o8⟩ := hO o
  exact ⟨hA, hB, hP, hLa, hS, hW, ⟨m3, m4, m5 o1, m6⟩, o1, o2, o3, o5, o6, o7, o8⟩
theorem RlX.to (h : RlX σ N S) (w : WS σ N) (z : Zr σ N) : RlN σ N S := by
  obtain ⟨hA, hB, hP, hLa, hS, hW, ⟨m3, m4, m5, m6⟩, o1, o2, o3, o5, o6, o7, o8⟩ := h
  exact ⟨hA, hB, hP, hLa, hS, hW, ⟨ws_rdr w, z, m3, m4, fun _ => m5, m6⟩, fun _ => ⟨o1, o2, o3, w, o5, o6, o7, o8⟩⟩
abbrev OnC : List Nat := 101 :: 102 :: StC
theorem fo_one : FqO OnC μ (oneH μ N S) := by
  have h1 : FqO OnC μ (ltH μ) := FqO.rf.wI (by decide)
  have h2 : FqO OnC (ltH μ) (stepH (ltH μ) N) := fo_step.weak (by decide)
  have h3 : FqO OnC (stepH (ltH μ) N) (spH (stepH (ltH μ) N)) := FqO.rf.wI (by decide)
  have h4 : FqO OnC (spH (stepH (ltH μ) N)) (oneH μ N S) := (FqO.rf.wD (by decide)).wI (by decide)
  exact ((h1.trans h2).trans h3).trans h4
theorem zt_one (h : Zt μ N) : Zt (oneH μ N S) N := zt_step (σ := ltH μ) h
theorem one_vw {k : Nat} {gD : Ts UInt64 × (Int → Bool)} {gF : Ts UInt32 × (Int → Bool)} (hl : hD μ 69 45 = lenD k) (eD : gD = gstep arD zcD (ptD μ N) (lenD k) (lenD (k + 1)) (tsD μ)) (eF : gF = gstep arF zcF (ptF μ N) (FP.d2f (lenD k)) (FP.d2f (lenD (k + 1))) (tsF μ)) :
    ptD (oneH μ N S) N = ptD μ N ∧ ptF (oneH μ N S) N = ptF μ N ∧ tsD (oneH μ N S) = gD.1 ∧ tsF (oneH μ N S) = gF.1 ∧ hI (oneH μ N S) 87 = lms (hI μ 87) (hI μ 69 12 + 1) (fun m => gD.2 m || gF.2 m) ∧ hD (oneH μ N S) 88 = pw (hD μ 88) (fun m => gdf (gD.1.1 m) (gF.1.1 m) (hD μ 88 m)) N ∧ hI (oneH μ N S) 101 = pw (hI μ 101) (fun s => hI μ 101 s + 1) S ∧ hD (oneH μ N S) 102 = pw (hD μ 102) (tkS (hI μ 101) (hI μ 100) gD.1.1 (hD μ 102)) (120 * S) ∧ hI (oneH μ N S) 69 = fup (fup (fup (hI μ 69) 44 (hI μ 69 12 + 1)) 12 (hI μ 69 12 + 1)) 15 (hI μ 69 15 + 1) := by
  obtain ⟨v1, v2, v3, v4, v5, v6⟩ := step_vw (τ := ltH μ) (N := N)
  have e13 : hI (ltH μ) 69 13 = hI μ 69 13 := by
    show fup (hI μ 69) 44 (hI μ 69 12 + 1) 13 = _
    exact fup_n (by decide)
  have p1 : ptD (ltH μ) N = ptD μ N := by
    show (hI μ 70, hD μ 71, hI μ 72, hI μ 73, hD μ 76, hD μ 77, hI μ 75, nnR μ, ords (hI μ 79) N, N, hI (ltH μ) 69 13) = ptD μ N
    rw [e13]; rfl
  have p2 : ptF (ltH μ) N = ptF μ N := by
    show (hI μ 70, xF (hD μ 71), hI μ 72, hI μ 73, xF (hD μ 76), xF (hD μ 77), hI μ 75, nnR μ, ords (hI μ 79) N, N, hI (ltH μ) 69 13) = ptF μ N
    rw [e13]; rfl
  have t1 : tsD (ltH μ) = tsD μ := rfl
  have t2 : tsF (ltH μ) = tsF μ := rfl
  have e45 : hD (ltH μ) 69 45 = lenD k := hl
  have e44 : hI (ltH μ) 69 44 = hI μ 69 12 + 1 := by
    show fup (hI μ 69) 44 (hI μ 69 12 + 1) 44 = _
    exact fup_s _ _ _
  have e2 : FP.ddiv (lenD k) 4611686018427387904 = lenD (k + 1) := rfl
  have e87 : hI (ltH μ) 87 = hI μ 87 := rfl
  have e88 : hD (ltH μ) 88 = hD μ 88 := rfl
  rw [e45, e2, p1, t1, ← eD] at v3
  rw [e45, e2, p2, t2, ← eF] at v4
  rw [e45, e2, p1, p2, t1, t2, e44, e87, ← eD, ← eF] at v5
  rw [e45, e2, p1, p2, t1, t2, e88, ← eD, ← eF] at v6
  have s69 : hI (stepH (ltH μ) N) 69 = fup (fup (hI μ 69) 44 (hI μ 69 12 + 1)) 12 (hI μ 69 12 + 1) := by
    rw [stepH_69I]
    show fup (fup (hI μ 69) 44 (hI μ 69 12 + 1)) 12 (fup (hI μ 69) 44 (hI μ 69 12 + 1) 12 + 1) = _
    rw [fup_n (f := hI μ 69) (by decide)]
  have s101 : hI (stepH (ltH μ) N) 101 = hI μ 101 := by rw [fo_step.I (by decide)]; rfl
  have s100 : hI (stepH (ltH μ) N) 100 = hI μ 100 := by rw [fo_step.I (by decide)]; rfl
  have s102 : hD (stepH (ltH μ) N) 102 = hD μ 102 := by rw [fo_step.D (by decide)]; rfl
  unfold oneH
  generalize stepH (ltH μ) N = ω at *
  have o13 : hI (tsH (spH ω) S) 69 13 = hI ω 69 13 := by
    show fup (hI ω 69) 15 (hI ω 69 15 + 1) 13 = _
    exact fup_n (by decide)
  have r82 : hD ω 82 = gD.1.1 := by rw [← v3]; rfl
  refine ⟨?_, ?_, v3, v4, v5, v6, ?_, ?_, ?_⟩
  · have w : ptD (tsH (spH ω) S) N = ptD ω N := by
      show (hI ω 70, hD ω 71, hI ω 72, hI ω 73, hD ω 76, hD ω 77, hI ω 75, nnR ω, ords (hI ω 79) N, N, hI (tsH (spH ω) S) 69 13) = ptD ω N
      rw [o13]; rfl
    rw [w, v1, p1]
  · have w : ptF (tsH (spH ω) S) N = ptF ω N := by
      show (hI ω 70, xF (hD ω 71), hI ω 72, hI ω 73, xF (hD ω 76), xF (hD ω 77), hI ω 75, nnR ω, ords (hI ω 79) N, N, hI (tsH (spH ω) S) 69 13) = ptF ω N
      rw [o13]; rfl
    rw [w, v2, p2]
  · show pw (hI ω 101) (fun s => hI ω 101 s + 1) S = _
    rw [s101]
  · show pw (hD ω 102) (tkS (hI ω 101) (hI ω 100) (hD ω 82) (hD ω 102)) (120 * S) = _
    rw [s101, s100, s102, r82]
  · show fup (hI ω 69) 15 (hI ω 69 15 + 1) = _
    rw [s69, fup_n (f := fup (hI μ 69) 44 (hI μ 69 12 + 1)) (by decide), fup_n (f := hI μ 69) (by decide)]
abbrev DsL : List Nat := [0, 2, 19, 49, 50] ++ TwC
theorem cls_cm : cls (cm τ μ) = cls τ := by
  unfold cls cm
  refine Prod.ext (funext fun c => ?_) (Prod.ext (funext fun c => ?_) (Prod.ext (funext fun c => ?_) (funext fun c => ?_))) <;> dsimp only <;> by_cases g : c < 69
  · rw [if_pos g, if_pos g, if_pos g]
  · rw [if_neg g, if_neg g]
  · rw [if_pos g, if_pos g, if_pos g]
  · rw [if_neg g, if_neg g]
  · rw [if_pos g, if_pos g, if_pos g]
  · rw [if_neg g, if_neg g]
  · rw [if_pos g, if_pos g, if_pos g]
  · rw [if_neg g, if_neg g]
theorem mdl_cm : mdl (cm τ μ) = mdl μ := by
  unfold mdl cm
  refine Prod.ext (funext fun c => ?_) (Prod.ext (funext fun c => ?_) (Prod.ext (funext fun c => ?_) (funext fun c => ?_))) <;> dsimp only <;> by_cases g : c < 69
  · rw [if_pos g, if_pos g]
  · rw [if_neg g, if_neg g, if_neg g]
  · rw [if_pos g, if_pos g]
  · rw [if_neg g, if_neg g, if_neg g]
  · rw [if_pos g, if_pos g]
  · rw [if_neg g, if_neg g, if_neg g]
  · rw [if_pos g, if_pos g]
  · rw [if_neg g, if_neg g, if_neg g]
/-- class and reference go a step -/
theorem x_step {k : Nat} {gD : Ts UInt64 × (Int → Bool)} {gF : Ts UInt32 × (Int → Bool)} (h : RlX (cm τ μ) N S) (hl : hD μ 69 45 = lenD k) (ht : hI μ 69 12 < 300) (hs : ∀ s : Int, 0 ≤ s → s < S → hI μ 101 s < 120) (hm : ¬ hI μ 69 11 = 0) (eD : gD = gstep arD zcD (ptD μ N) (lenD k) (lenD (k + 1)) (tsD μ)) (eF : gF = gstep arF zcF (ptF μ N) (FP.d2f (lenD k)) (FP.d2f (lenD (k + 1))) (tsF μ)) (F : Fq DsL τ ν)
    (hT : Tws ν (hI μ 72) (hD μ 71) (xF (hD μ 71)) (nnR μ) (ords (hI μ 79) N) N (ptD μ N) (ptF μ N) gD.1 gF.1) (q20 : hI ν 20 = lms (hI τ 20) (hI τ 0 10 + 1) (fun m => gD.2 m || gF.2 m)) (q0 : hI ν 0 = fup (fup (hI τ 0) 10 (hI τ 0 10 + 1)) 12 (hI τ 0 12 + 1)) (q2 : hD ν 2 = pw (hD τ 2) (fun m => gdf (gD.1.1 m) (gF.1.1 m) (hD τ 2 m)) N)
    (q50 : ∃ rr : Int → UInt64, (∀ m : Int, 0 ≤ m → m < N → rr m = gD.1.1 m) ∧ hL ν 50 = pw (hL τ 50) (tkS (hI τ 49) (hI τ 48) (fun k => (rr k).toInt64) (hL τ 50)) (120 * S)) (q49 : hI ν 49 = pw (hI τ 49) (fun s => hI τ 49 s + 1) S) : RlX (cm ν (oneH μ N S)) N S := by
  obtain ⟨v1, v2, v3, v4, v5, v6, v7, v8, v9⟩ := one_vw (S := S) hl eD eF
  have fo := fo_one (μ := μ) (N := N) (S := S)
  obtain ⟨hA, hB, hP, hLa, hS, hW, ⟨m3, m4, m5, m6⟩, o1, o2, o3, o5, o6, o7, o8⟩ := h
  obtain ⟨rr, hrr, q50⟩ := q50
  have n20 := hA.1.2.2
  -- the rows of the first heap
  have ci : ∀ c : Nat, c < 69 → hI (cm τ μ) c = hI τ c := fun c g => if_pos g
  have cl : ∀ c : Nat, c < 69 → hL (cm τ μ) c = hL τ c := fun c g => if_pos g
  have cd : ∀ c : Nat, c < 69 → hD (cm τ μ) c = hD τ c := fun c g => if_pos g
  have mi : ∀ c : Nat, ¬ c < 69 → hI (cm τ μ) c = hI μ c := fun c g => if_neg g
  have mf' : ∀ c : Nat, ¬ c < 69 → hF (cm τ μ) c = hF μ c := fun c g => if_neg g
  have md : ∀ c : Nat, ¬ c < 69 → hD (cm τ μ) c = hD μ c := fun c g => if_neg g
  have ci' : ∀ c : Nat, c < 69 → hI (cm ν (oneH μ N S)) c = hI ν c := fun c g => if_pos g
  have cl' : ∀ c : Nat, c < 69 → hL (cm ν (oneH μ N S)) c = hL ν c := fun c g => if_pos g
  have cd' : ∀ c : Nat, c < 69 → hD (cm ν (oneH μ N S)) c = hD ν c := fun c g => if_pos g
  have xI : ∀ c : Nat, c < 69 → c ∉ DsL → hI (cm ν (oneH μ N S)) c = hI (cm τ μ) c := fun c a b => (ci' c a).trans ((F.I b).trans (ci c a).symm)
  have xL : ∀ c : Nat, c < 69 → c ∉ DsL → hL (cm ν (oneH μ N S)) c = hL (cm τ μ) c := fun c a b => (cl' c a).trans ((F.L b).trans (cl c a).symm)
  have xD : ∀ c : Nat, c < 69 → c ∉ DsL → hD (cm ν (oneH μ N S)) c = hD (cm τ μ) c := fun c a b => (cd' c a).trans ((F.D b).trans (cd c a).symm)
  have yI : ∀ c : Nat, ¬ c < 69 → c ∉ OnC → hI (cm ν (oneH μ N S)) c = hI (cm τ μ) c := fun c a b => (hI_cm a).trans ((fo.I b).trans (mi c a).symm)
  have yF : ∀ c : Nat, ¬ c < 69 → c ∉ OnC → hF (cm ν (oneH μ N S)) c = hF (cm τ μ) c := fun c a b => (hF_cm a).trans ((fo.F b).trans (mf' c a).symm)
  have yD : ∀ c : Nat, ¬ c < 69 → c ∉ OnC → hD (cm ν (oneH μ N S)) c = hD (cm τ μ) c := fun c a b => (hD_cm a).trans ((fo.D b).trans (md c a).symm)
  have x0 : hI (cm ν (oneH μ N S)) 0 = fup (fup (hI (cm τ μ) 0) 10 (hI (cm τ μ) 0 10 + 1)) 12 (hI (cm τ μ) 0 12 + 1) := (ci' 0 (by decide)).trans (by rw [q0, ci 0 (by decide)])
  have x69 : hI (cm ν (oneH μ N S)) 69 = fup (fup (fup (hI (cm τ μ) 69) 44 (hI (cm τ μ) 69 12 + 1)) 12 (hI (cm τ μ) 69 12 + 1)) 15 (hI (cm τ μ) 69 15 + 1) := (hI_cm (by decide)).trans (by rw [v9, mi 69 (by decide)])
  have p1 : ptD (cm ν (oneH μ N S)) N = ptD (cm τ μ) N := by
    have a := (pt_md (N := N) (mdl_cm (τ := ν) (μ := oneH μ N S))).1
    have b := (pt_md (N := N) (mdl_cm (τ := τ) (μ := μ))).1
    rw [a, b, v1]
  have p2 : ptF (cm ν (oneH μ N S)) N = ptF (cm τ μ) N := by
    have a := (pt_md (N := N) (mdl_cm (τ := ν) (μ := oneH μ N S))).2.1
    have b := (pt_md (N := N) (mdl_cm (τ := τ) (μ := μ))).2.1
    rw [a, b, v2]
  have t1 : tsD (cm ν (oneH μ N S)) = gD.1 := (pt_md (N := N) (mdl_cm (τ := ν) (μ := oneH μ N S))).2.2.1.trans v3
  have t2 : tsF (cm ν (oneH μ N S)) = gF.1 := (pt_md (N := N) (mdl_cm (τ := ν) (μ := oneH μ N S))).2.2.2.1.trans v4
  have nn : nnR (cm ν (oneH μ N S)) = nnR (cm τ μ) := by unfold nnR; rw [yD 71 (by decide) (by decide)]
  have nnm : nnR (cm τ μ) = nnR μ := (pt_md (N := N) (mdl_cm (τ := τ) (μ := μ))).2.2.2.2
  have b1 := (pt_md (N := N) (mdl_cm (τ := τ) (μ := μ))).1
  have b2 := (pt_md (N := N) (mdl_cm (τ := τ) (μ := μ))).2.1
  rw [← b1] at eD
  rw [← b2] at eF
  have wp := wp_of hA hP o2
  have w1 : WO (ptD (cm τ μ) N) := wo_of wp o2 rfl rfl rfl rfl rfl o3
  have w2 : WO (ptF (cm τ μ) N) := wo_of wp o2 rfl rfl rfl rfl rfl o3
  have et : hI τ 0 10 = hI (cm τ μ) 69 12 := by rw [← ci 0 (by decide)]; exact hA.2.2.2.1.1
  have et2 : hI μ 69 12 = hI (cm τ μ) 69 12 := by rw [mi 69 (by decide)]
  have ht2 : hI (cm τ μ) 69 12 < 300 := by rw [mi 69 (by decide)]; exact ht
  have x20 : hI (cm ν (oneH μ N S)) 20 = lms (hI (cm τ μ) 20) (hI (cm τ μ) 69 12 + 1) (fun m => gD.2 m || gF.2 m) := (ci' 20 (by decide)).trans (by rw [q20, ci 20 (by decide), et])
  have x87 : hI (cm ν (oneH μ N S)) 87 = lms (hI (cm τ μ) 87) (hI (cm τ μ) 69 12 + 1) (fun m => gD.2 m || gF.2 m) := (hI_cm (by decide)).trans (by rw [v5, mi 87 (by decide), et2])
  have x2 : hD (cm ν (oneH μ N S)) 2 = pw (hD (cm τ μ) 2) (fun m => gdf (gD.1.1 m) (gF.1.1 m) (hD (cm τ μ) 2 m)) N := (cd' 2 (by decide)).trans (by rw [q2, cd 2 (by decide)])
  have x88 : hD (cm ν (oneH μ N S)) 88 = pw (hD (cm τ μ) 88) (fun m => gdf (gD.1.1 m) (gF.1.1 m) (hD (cm τ μ) 88 m)) N := (hD_cm (by decide)).trans (by rw [v6, md 88 (by decide)])
  have x49 : hI (cm ν (oneH μ N S)) 49 = pw (hI (cm τ μ) 49) (fun s => hI (cm τ μ) 49 s + 1) S := (ci' 49 (by decide)).trans (by rw [q49, ci 49 (by decide)])
  have x101 : hI (cm ν (oneH μ N S)) 101 = pw (hI (cm τ μ) 101) (fun s => hI (cm τ μ) 101 s + 1) S := (hI_cm (by decide)).trans (by rw [v7, mi 101 (by decide)])
  have x50 : hL (cm ν (oneH μ N S)) 50 = pw (hL (cm τ μ) 50) (tkS (hI (cm τ μ) 49) (hI (cm τ μ) 48) (fun k => (rr k).toInt64) (hL (cm τ μ) 50)) (120 * S) := (cl' 50 (by decide)).trans (by rw [q50, cl 50 (by decide), ci 49 (by decide), ci 48 (by decide)])
  have x102 : hD (cm ν (oneH μ N S)) 102 = pw (hD (cm τ μ) 102) (tkS (hI (cm τ μ) 101) (hI (cm τ μ) 100) gD.1.1 (hD (cm τ μ) 102)) (120 * S) := (hD_cm (by decide)).trans (by rw [v8, md 102 (by decide), mi 101 (by decide), mi 100 (by decide)])
  have x82 : hD (cm ν (oneH μ N S)) 82 = gD.1.1 := by rw [← t1]; rfl
  have x83 : hF (cm ν (oneH μ N S)) 83 = gF.1.1 := by rw [← t2]; rfl
  have ztm : Zt (cm ν (oneH μ N S)) N := fun m a b => by
    rw [hD_cm (by decide), hF_cm (by decide)]
    refine zt_one (fun m a b => ?_) m a b
    have := m3 m a b
    rw [md 115 (by decide), mf' 116 (by decide)] at this
    exact this
  have k20 : K20 (cm ν (oneH μ N S)) := fun k a b => by
    rw [cd' 22 (by decide), cd' 35 (by decide), cd' 57 (by decide)]
    refine F.2 (fun k a b => ?_) k a b
    have := m4 k a b
    rw [cd 22 (by decide), cd 35 (by decide), cd 57 (by decide)] at this
    exact this
  have hTn : Tws (cm ν (oneH μ N S)) (hI (cm τ μ) 72) (hD (cm τ μ) 71) (xF (hD (cm τ μ) 71)) (nnR (cm τ μ)) (ords (hI (cm τ μ) 79) N) N (ptD (cm τ μ) N) (ptF (cm τ μ) N) gD.1 gF.1 := by
    rw [nnm, b1, b2, mi 72 (by decide), md 71 (by decide), mi 79 (by decide)]
    exact tws_cl hT cls_cm
  have rdm : ∀ m : Int, 0 ≤ m → m < N → mg (gD.1.1 m) 1024 ∧ mf (gF.1.1 m) 128 := fun m x y => ⟨(hTn.1.2.1 m x y).2, (hTn.2.1.2.1 m x y).2⟩
  have hs2 : ∀ s : Int, 0 ≤ s → s < S → hI (cm τ μ) 101 s < 120 := by rw [mi 101 (by decide)]; exact hs
  have gno : ∀ k : Int, (N : Int) ≤ k → (gD.2 k || gF.2 k) = false := fun k hk => by
    rw [eD, eF, gstep_no w1 hk, gstep_no w2 hk]; rfl
  have gnz : ∀ m : Int, 0 ≤ m → m < N → gD.1.1 m ≠ 9223372036854775808 ∧ gF.1.1 m ≠ 2147483648 := fun m x y => by
    have i1 : tsD (cm τ μ) = tsD μ := (pt_md (N := N) (mdl_cm (τ := τ) (μ := μ))).2.2.1
    rw [eD, eF]
    exact ⟨gstep_nzD (w1.2.2.2.1 m x y), gstep_nzF (w2.2.2.2.1 m x y)⟩
  have a88 : ∀ m : Int, 0 ≤ m → m < N → (hD (cm ν (oneH μ N S)) 88 m).toNat < 1030 * 2 ^ 52 := fun m x y => by
    rw [x88, pw_lo x y]
    exact gdf_ok (rdm m x y).1 (rdm m x y).2 (o6 m x y).2
  clear hT q20 q0 q2 q50 q49 v1 v2 v3 v4 v5 v6 v7 v8 v9 F fo ci cl cd mi mf' md ci' cl' cd' eD eF b1 b2 et et2 ht hs hl hm nnm
  generalize cm ν (oneH μ N S) = ω at *
  generalize cm τ μ = ψ at *
  refine ⟨?_, ?_, ?_, ?_, ?_, ?_, ⟨ztm, k20, ?_, fun m x y => ?_⟩, ?_, ?_, ?_, ?_, fun m x y => ⟨?_, a88 m x y⟩, ?_, ?_⟩
  · unfold RlA at hA ⊢
    rw [xI 3 (by decide) (by decide), xI 47 (by decide) (by decide), xI 51 (by decide) (by decide), xI 21 (by decide) (by decide), xI 34 (by decide) (by decide), xI 56 (by decide) (by decide), x0, x69]
    simp [fup]
    omega
  · unfold RlB
    rw [xI 4 (by decide) (by decide), xL 5 (by decide) (by decide), xD 6 (by decide) (by decide), xL 7 (by decide) (by decide), xD 8 (by decide) (by decide), xI 9 (by decide) (by decide), xI 10 (by decide) (by decide), xI 11 (by decide) (by decide), xD 12 (by decide) (by decide), xD 13 (by decide) (by decide), xI 14 (by decide) (by decide), yI 70 (by decide) (by decide), yD 71 (by decide) (by decide), yI 72 (by decide) (by decide), yI 73 (by decide) (by decide), yD 74 (by decide) (by decide), yI 75 (by decide) (by decide), yD 76 (by decide) (by decide), yD 77 (by decide) (by decide), yI 78 (by decide) (by decide)]
    exact hB
  · unfold RlP
    rw [yI 70 (by decide) (by decide), yD 71 (by decide) (by decide), yI 72 (by decide) (by decide), yI 73 (by decide) (by decide), yD 74 (by decide) (by decide), yI 75 (by decide) (by decide), yD 76 (by decide) (by decide), yD 77 (by decide) (by decide), yI 78 (by decide) (by decide)]
    exact hP
  · have tb := hA.2.2.2.1
    refine ⟨fun k x y => ⟨?_, ?_⟩, fun k x y => ?_, ?_⟩
    · rw [x20, x87]
      unfold lms
      rw [(hLa.1 k x y).1]
    · rw [x87]
      exact lms_inR (hLa.1 k x y).2 (by constructor <;> omega)
    · rw [x87]
      unfold lms
      rw [if_neg (fun q => absurd (q.1.symm.trans (gno k x)) (by decide))]
      exact hLa.2.1 k x y
    · unfold L20
      rw [xI 55 (by decide) (by decide), xI 54 (by decide) (by decide)]
      exact hLa.2.2
  · obtain ⟨s1, s2, s3, s4, s5⟩ := hS
    have so : ∀ j : Int, 0 ≤ j → j < (120 * S : Nat) → 0 ≤ hI ψ 100 (j / 120) ∧ hI ψ 100 (j / 120) < N := fun j x y => (s4 (j / 120) (by omega) (by omega)).2
    refine ⟨?_, ?_, ?_, fun s x y => ⟨?_, ?_⟩, fun j x y => ?_⟩
    · rw [xI 48 (by decide) (by decide), yI 100 (by decide) (by decide)]; exact s1
    · rw [x49, x101, s2]
    · rw [x50, x102, s2, s1, s3]
      funext j
      by_cases c : 0 ≤ j ∧ j < (120 * S : Nat)
      · rw [pw_lo c.1 c.2, pw_lo c.1 c.2]
        unfold tkS
        by_cases g : j = 120 * (j / 120) + hI ψ 101 (j / 120)
        · rw [if_pos g, if_pos g]
          have b := so j c.1 c.2
          show (rr _).toInt64 = _
          rw [hrr _ b.1 b.2]
        · rw [if_neg g, if_neg g]
      · unfold pw
        rw [if_neg c, if_neg c]
    · rw [x101]
      have e : pw (hI ψ 101) (fun s => hI ψ 101 s + 1) S s = hI ψ 101 s + 1 := pw_lo (f := hI ψ 101) (g := fun s => hI ψ 101 s + 1) x y
      rw [e]
      have := s4 s x y
      have := hs2 s x y
      omega
    · rw [yI 100 (by decide) (by decide)]; exact (s4 s x y).2
    · rw [x102]
      unfold pw
      by_cases c : 0 ≤ j ∧ j < (120 * S : Nat)
      · rw [if_pos c]
        unfold tkS
        split
        · have b := so j c.1 c.2
          exact (rdm _ b.1 b.2).1.nn (by decide)
        · exact s5 j x y
      · rw [if_neg c]; exact s5 j x y
  · unfold RlW at hW ⊢
    rw [xD 52 (by decide) (by decide), yD 103 (by decide) (by decide), x69, fup_n (by decide), fup_n (by decide), fup_n (by decide)]
    exact hW
  · unfold LevR OrdC
    rw [xI 16 (by decide) (by decide), xI 4 (by decide) (by decide), xI 18 (by decide) (by decide), xI 15 (by decide) (by decide), xI 17 (by decide) (by decide), yI 72 (by decide) (by decide)]
    exact m5
  · rw [yD 89 (by decide) (by decide)]
    refine ⟨?_, (m6 m x y).2⟩
    by_cases c : m < N
    · exact vn64.mpr (by have := a88 m x c; omega)
    · rw [x88, pw_hi (by omega)]; exact (m6 m x y).1
  · rw [xI 3 (by decide) (by decide)]; exact o1
  · rw [yI 70 (by decide) (by decide), yI 72 (by decide) (by decide), yI 75 (by decide) (by decide)]; exact o2
  · rw [yI 70 (by decide) (by decide), yI 72 (by decide) (by decide), yI 79 (by decide) (by decide)]; exact o3
  · rw [p1, p2, t1, t2, nn, yI 72 (by decide) (by decide), yD 71 (by decide) (by decide), yI 79 (by decide) (by decide)]
    exact hTn
  · rw [x2, x88, pw_lo x y, pw_lo x y, (o6 m x y).1]
  · rw [xL 1 (by decide) (by decide), yI 70 (by decide) (by decide), yD 89 (by decide) (by decide)]; exact o7
  · rw [x82, x83]; exact gnz
end RSX
