/-! ===== cells that stay, of the reference ===== -/
theorem FqO.rf {S : List Nat} {σ : Hp} : FqO S σ σ := fun _ _ => ⟨rfl, rfl, rfl, rfl⟩
theorem FqO.trans {S : List Nat} {a b c : Hp} (h1 : FqO S a b) (h2 : FqO S b c) : FqO S a c := fun x hx => by
  obtain ⟨a1, a2, a3, a4⟩ := h1 x hx
  obtain ⟨b1, b2, b3, b4⟩ := h2 x hx
  exact ⟨b1.trans a1, b2.trans a2, b3.trans a3, b4.trans a4⟩
theorem FqO.weak {S S2 : List Nat} {a b : Hp} (h : FqO S a b) (hs : ∀ c ∈ S, c ∈ S2) : FqO S2 a b := fun c hc => h c (fun q => hc (hs c q))
theorem FqO.I {S : List Nat} {a b : Hp} (h : FqO S a b) {c : Nat} (hc : c ∉ S) : hI b c = hI a c := (h c hc).1
theorem FqO.L {S : List Nat} {a b : Hp} (h : FqO S a b) {c : Nat} (hc : c ∉ S) : hL b c = hL a c := (h c hc).2.1
theorem FqO.F {S : List Nat} {a b : Hp} (h : FqO S a b) {c : Nat} (hc : c ∉ S) : hF b c = hF a c := (h c hc).2.2.1
theorem FqO.D {S : List Nat} {a b : Hp} (h : FqO S a b) {c : Nat} (hc : c ∉ S) : hD b c = hD a c := (h c hc).2.2.2
theorem FqO.wI {S : List Nat} {a b : Hp} {c : Nat} {g : Int → Int} (h : FqO S a b) (hc : c ∈ S) : FqO S a (wI b c g) := fun x hx => by
  obtain ⟨a1, a2, a3, a4⟩ := h x hx
  exact ⟨by rw [hI_wI, if_neg (fun q => hx (by rw [q]; exact hc))]; exact a1, a2, a3, a4⟩
theorem FqO.wL {S : List Nat} {a b : Hp} {c : Nat} {g : Int → Int64} (h : FqO S a b) (hc : c ∈ S) : FqO S a (wL b c g) := fun x hx => by
  obtain ⟨a1, a2, a3, a4⟩ := h x hx
  exact ⟨a1, by rw [hL_wL, if_neg (fun q => hx (by rw [q]; exact hc))]; exact a2, a3, a4⟩
theorem FqO.wF {S : List Nat} {a b : Hp} {c : Nat} {g : Int → UInt32} (h : FqO S a b) (hc : c ∈ S) : FqO S a (wF b c g) := fun x hx => by
  obtain ⟨a1, a2, a3, a4⟩ := h x hx
  exact ⟨a1, a2, by rw [hF_wF, if_neg (fun q => hx (by rw [q]; exact hc))]; exact a3, a4⟩
theorem FqO.wD {S : List Nat} {a b : Hp} {c : Nat} {g : Int → UInt64} (h : FqO S a b) (hc : c ∈ S) : FqO S a (wD b c g) := fun x hx => by
  obtain ⟨a1, a2, a3, a4⟩ := h x hx
  exact ⟨a1, a2, a3, by rw [hD_wD, if_neg (fun q => hx (by rw [q]; exact hc))]; exact a4⟩
theorem FqO.k20 {S : List Nat} {a b : Hp} (h : FqO S a b) (hS : 22 ∉ S ∧ 35 ∉ S ∧ 57 ∉ S) (k : K20 a) : K20 b := fun x x0 x1 => by
  rw [h.D hS.1, h.D hS.2.1, h.D hS.2.2]; exact k x x0 x1
theorem FqO.q {S : List Nat} {a b : Hp} (h : FqO S a b) (hS : 22 ∉ S ∧ 35 ∉ S ∧ 57 ∉ S) : Fq S a b := ⟨h, h.k20 hS⟩
abbrev StC : List Nat := [69, 80, 81, 82, 83, 84, 85, 86, 87, 88, 105, 106, 107, 108, 109, 110, 111, 112, 113, 114, 115, 116]
abbrev BgC : List Nat := [69, 79, 80, 81, 82, 83, 84, 85, 86, 87, 88, 89]
/-- the rows of rates beyond N are 0 -/
abbrev Zt (σ : Hp) (N : Nat) : Prop := ∀ m : Int, (N : Int) ≤ m → m < 20 → hD σ 115 m = FP.dconst0 ∧ hF σ 116 m = FP.fconst0
section VIEW
variable {σ : Hp} {N : Nat}
theorem fo_rd : FqO StC σ (rdN σ N) := ((FqO.rf.wD (by decide)).wF (by decide)).wI (by decide)
theorem fo_ra : FqO StC σ (raH σ N) := (FqO.rf.wD (by decide)).wF (by decide)
theorem fo_ad : FqO StC σ (adH σ N) := (FqO.rf.wD (by decide)).wF (by decide)
theorem fo_wg : FqO StC σ (wgH σ N) := (FqO.rf.wD (by decide)).wF (by decide)
theorem fo_kr1 : FqO StC σ (krH1 σ N) := (FqO.rf.wD (by decide)).wF (by decide)
theorem fo_kr2 : FqO StC σ (krH2 σ N) := (FqO.rf.wD (by decide)).wF (by decide)
theorem fo_kr3 : FqO StC σ (krH3 σ N) := (FqO.rf.wD (by decide)).wF (by decide)
theorem fo_df : FqO StC σ (dfH σ N) := FqO.rf.wD (by decide)
theorem fo_tm : FqO StC σ (tmH σ) := FqO.rf.wI (by decide)
theorem fo_sg {t : UInt64} : FqO StC σ (sgH σ t N) := ((FqO.rf.wD (by decide)).wF (by decide)).wI (by decide)
theorem fo_p1 : FqO StC σ (p1H σ N) := (((FqO.rf.wD (by decide)).wF (by decide)).wD (by decide)).wF (by decide)
theorem fo_ot : FqO StC σ (otH σ N) := ((((FqO.rf.wD (by decide)).wF (by decide)).wD (by decide)).wF (by decide)).wI (by decide)
theorem fo_ph {t : UInt64} : FqO StC σ (raH (rdN (sgH σ t N) N) N) := (fo_sg.trans fo_rd).trans fo_ra
theorem fo_r1 {t : UInt64} : FqO StC σ (r1H σ N t) := (fo_ph.trans fo_ad).trans fo_sg
theorem fo_r2 {t : UInt64} : FqO StC σ (r2H σ N t) := ((((fo_ph.trans fo_kr2).trans (fo_ph.trans fo_kr3)).trans fo_ph).trans fo_wg).trans fo_sg
theorem fo_mid {t : UInt64} {r : Int} : FqO StC σ (midH σ N t r) := by
  unfold midH
  by_cases g0 : r = 0
  · rw [if_pos g0]; exact fo_sg
  · rw [if_neg g0]
    by_cases g1 : r = 1
    · rw [if_pos g1]; exact fo_r1
    · rw [if_neg g1]; exact fo_r2
theorem fo_step : FqO StC σ (stepH σ N) := ((((fo_p1.trans fo_ra).trans fo_kr1).trans fo_mid).trans ((fo_ot.trans fo_tm).trans fo_rd)).trans fo_df
theorem fo_it : ∀ n : Nat, FqO StC σ (itH σ N n)
  | 0 => FqO.rf
  | n + 1 => (fo_it n).trans fo_step
theorem fo_beg : FqO BgC σ (begH σ N) := by
  have h1 : FqO BgC σ (z0H σ N) := ((FqO.rf.wI (by decide)).wI (by decide)).wI (by decide)
  have h2 : FqO BgC (z0H σ N) (bbH (z0H σ N) N (16 * N)) := ((((((FqO.rf.wD (by decide)).wD (by decide)).wF (by decide)).wI (by decide)).wD (by decide)).wF (by decide)).wI (by decide)
  have h3 : FqO BgC (bbH (z0H σ N) N (16 * N)) (rdN (bbH (z0H σ N) N (16 * N)) N) := ((FqO.rf.wD (by decide)).wF (by decide)).wI (by decide)
  have h4 : FqO BgC (rdN (bbH (z0H σ N) N (16 * N)) N) (begH σ N) := (FqO.rf.wD (by decide)).wD (by decide)
  exact ((h1.trans h2).trans h3).trans h4
theorem fo_tr {n : Nat} {t : UInt64} : FqO (79 :: 89 :: StC) σ (trH σ N n t) := ((fo_beg.weak (by decide)).trans (FqO.rf.wD (by decide) : FqO (79 :: 89 :: StC) (begH σ N) (leH (begH σ N) t))).trans ((fo_it n).weak (by decide))
theorem zt_ra (h : Zt σ N) : Zt (raH σ N) N := fun m a b => by
  have e1 : hD (raH σ N) 115 m = hD σ 115 m := pw_hi a
  have e2 : hF (raH σ N) 116 m = hF σ 116 m := pw_hi a
  rw [e1, e2]; exact h m a b
theorem zt_ad (h : Zt σ N) : Zt (adH σ N) N := fun m a b => by
  have e1 : hD (adH σ N) 115 m = hD σ 115 m := pw_hi (f := hD σ 115) (g := fun m => Aadd arD (hD σ 105 m) (hD σ 115 m)) a
  have e2 : hF (adH σ N) 116 m = hF σ 116 m := pw_hi (f := hF σ 116) (g := fun m => Aadd arF (hF σ 109 m) (hF σ 116 m)) a
  rw [e1, e2]; exact h m a b
theorem zt_wg (h : Zt σ N) : Zt (wgH σ N) N := fun m a b => by
  have e1 : hD (wgH σ N) 115 m = hD σ 115 m := pw_hi (f := hD σ 115) (g := fun m => gwg arD (hD σ 105 m) (hD σ 106 m) (hD σ 107 m) (hD σ 115 m)) a
  have e2 : hF (wgH σ N) 116 m = hF σ 116 m := pw_hi (f := hF σ 116) (g := fun m => gwg arF (hF σ 109 m) (hF σ 110 m) (hF σ 111 m) (hF σ 116 m)) a
  rw [e1, e2]; exact h m a b
theorem zt_sg {t : UInt64} (h : Zt σ N) : Zt (sgH σ t N) N := h
theorem zt_rd (h : Zt σ N) : Zt (rdN σ N) N := h
theorem zt_kr1 (h : Zt σ N) : Zt (krH1 σ N) N := h
theorem zt_kr2 (h : Zt σ N) : Zt (krH2 σ N) N := h
theorem zt_kr3 (h : Zt σ N) : Zt (krH3 σ N) N := h
theorem zt_end (h : Zt σ N) : Zt (endH σ N) N := h
theorem zt_p1 (h : Zt σ N) : Zt (p1H σ N) N := h
theorem zt_mid {t : UInt64} {r : Int} (h : Zt σ N) : Zt (midH σ N t r) N := by
  unfold midH
  by_cases g0 : r = 0
  · rw [if_pos g0]; exact zt_sg h
  · rw [if_neg g0]
    by_cases g1 : r = 1
    · rw [if_pos g1]; exact zt_sg (zt_ad (zt_ra (zt_rd (zt_sg h))))
    · rw [if_neg g1]; exact zt_sg (zt_wg (zt_ra (zt_rd (zt_sg (zt_kr3 (zt_ra (zt_rd (zt_sg (zt_kr2 (zt_ra (zt_rd (zt_sg h))))))))))))
theorem zt_step (h : Zt σ N) : Zt (stepH σ N) N := zt_end (zt_mid (zt_kr1 (zt_ra (zt_p1 h))))
theorem zt_it (h : Zt σ N) : ∀ n : Nat, Zt (itH σ N n) N
  | 0 => h
  | n + 1 => zt_step (zt_it h n)
theorem zt_beg (h : Zt σ N) : Zt (begH σ N) N := h
theorem zt_tr {n : Nat} {t : UInt64} (h : Zt σ N) : Zt (trH σ N n t) N := zt_it (σ := leH (begH σ N) t) h n
theorem ws_rdr (h : WS σ N) : RdR σ := ⟨fun k a b => ⟨(h.2.1 k a b).1, (h.2.1 k a b).2, (h.1.2.2.2.2.2.1 k a b).1, (h.1.2.2.2.2.2.1 k a b).2⟩, h.1.2.2.2.2.2.2⟩
/-! START -/
theorem beg_pD : ptD (begH σ N) N = (hI σ 70, hD σ 71, hI σ 72, hI σ 73, hD σ 76, hD σ 77, hI σ 75, nnR σ, ords (lvs (hI σ 70) (hI σ 72) (hI σ 79) N) N, N, hI σ 69 13) := rfl
theorem beg_pF : ptF (begH σ N) N = (hI σ 70, xF (hD σ 71), hI σ 72, hI σ 73, xF (hD σ 76), xF (hD σ 77), hI σ 75, nnR σ, ords (lvs (hI σ 70) (hI σ 72) (hI σ 79) N) N, N, hI σ 69 13) := rfl
theorem beg_tD : tsD (begH σ N) = ((gRd arD (ptD (begH σ N) N) (pw (hD σ 84) (fun j => hD σ 74 (j / 16)) (16 * N)) (pw (hD σ 80) (hD σ 74) N) (hD σ 82)).1, pw (hD σ 80) (hD σ 74) N, pw (hD σ 84) (fun j => hD σ 74 (j / 16)) (16 * N), pw (hI σ 86) (sdB σ) N) := rfl
theorem beg_tF : tsF (begH σ N) = ((gRd arF (ptF (begH σ N) N) (pw (hF σ 85) (fun j => xF (hD σ 74) (j / 16)) (16 * N)) (pw (hF σ 81) (xF (hD σ 74)) N) (hF σ 83)).1, pw (hF σ 81) (xF (hD σ 74)) N, pw (hF σ 85) (fun j => xF (hD σ 74) (j / 16)) (16 * N), pw (hI σ 86) (sdB σ) N) := rfl
theorem beg_lm : hI (begH σ N) 87 = lms (pw (hI σ 87) (fun _ => -1) N) 0 (fun k => (gRd arD (ptD (begH σ N) N) (pw (hD σ 84) (fun j => hD σ 74 (j / 16)) (16 * N)) (pw (hD σ 80) (hD σ 74) N) (hD σ 82)).2 k || (gRd arF (ptF (begH σ N) N) (pw (hF σ 85) (fun j => xF (hD σ 74) (j / 16)) (16 * N)) (pw (hF σ 81) (xF (hD σ 74)) N) (hF σ 83)).2 k) := rfl
theorem beg_ap : hD (begH σ N) 88 = pw (pw (hD σ 88) (fun _ => FP.dconst0) N) (fun m => gdf ((tsD (begH σ N)).1 m) ((tsF (begH σ N)).1 m) (pw (hD σ 88) (fun _ => FP.dconst0) N m)) N := rfl
theorem beg_ra : hD (begH σ N) 89 = pw (hD σ 89) (fun m => if hI σ 70 m = 2 then (gsum arD (hI σ 72) (hI σ 73) (tsD (begH σ N)).1 m 6).1 else FP.dconst0) N := rfl
/-- the twin at START, from whatever was read before -/
theorem beg_agD {r : Int → UInt64} (w : WO (ptD (begH σ N) N)) : TAg (ptD (begH σ N) N) (gT0 (hD σ 74) (hD σ 71) (ptD (begH σ N) N) r) (tsD (begH σ N)) ∧ (gRd arD (ptD (begH σ N) N) (fun j => hD σ 74 (j / 16)) (hD σ 74) r).2 = (gRd arD (ptD (begH σ N) N) (pw (hD σ 84) (fun j => hD σ 74 (j / 16)) (16 * N)) (pw (hD σ 80) (hD σ 74) N) (hD σ 82)).2 := by
  rw [beg_tD]
  obtain ⟨P, hP⟩ : ∃ P, P = ptD (begH σ N) N := ⟨_, rfl⟩
  have eN : pN P = N := by rw [hP]; rfl
  have eK : pK P = hI σ 70 := by rw [hP]; rfl
  rw [← hP] at w ⊢
  have q := gRd_ag (A := arD) (row := fun j => hD σ 74 (j / 16)) (row' := pw (hD σ 84) (fun j => hD σ 74 (j / 16)) (16 * N)) (st := hD σ 74) (st' := pw (hD σ 80) (hD σ 74) N) (r := r) (r' := hD σ 82) w (fun m a b => by rw [eN] at b; rw [pw_lo (by omega) (by omega)]) (fun m a b => by rw [eN] at b; rw [pw_lo a b])
  refine ⟨⟨q.1, fun m a b => ?_, fun j a b => ?_, fun m a b c => ?_⟩, q.2⟩
  · rw [eN] at b
    show hD σ 74 m = pw (hD σ 80) (hD σ 74) N m
    rw [pw_lo a b]
  · rw [eN] at b
    show hD σ 74 (j / 16) = pw (hD σ 84) (fun j => hD σ 74 (j / 16)) (16 * N) j
    rw [pw_lo a b]
  · rw [eN] at b
    rw [eK] at c
    show (FP.d2i (hD σ 71 m)).toInt = pw (hI σ 86) (sdB σ) N m
    rw [pw_lo a b]
    exact (if_pos c).symm
theorem beg_agF {r : Int → UInt32} (w : WO (ptF (begH σ N) N)) : TAg (ptF (begH σ N) N) (gT0F (hD σ 74) (hD σ 71) (ptF (begH σ N) N) r) (tsF (begH σ N)) ∧ (gRd arF (ptF (begH σ N) N) (fun j => bgXF (hD σ 74) (j / 16)) (bgXF (hD σ 74)) r).2 = (gRd arF (ptF (begH σ N) N) (pw (hF σ 85) (fun j => xF (hD σ 74) (j / 16)) (16 * N)) (pw (hF σ 81) (xF (hD σ 74)) N) (hF σ 83)).2 := by
  rw [beg_tF]
  obtain ⟨P, hP⟩ : ∃ P, P = ptF (begH σ N) N := ⟨_, rfl⟩
  have eN : pN P = N := by rw [hP]; rfl
  have eK : pK P = hI σ 70 := by rw [hP]; rfl
  rw [← hP] at w ⊢
  have q := gRd_ag (A := arF) (row := fun j => bgXF (hD σ 74) (j / 16)) (row' := pw (hF σ 85) (fun j => xF (hD σ 74) (j / 16)) (16 * N)) (st := bgXF (hD σ 74)) (st' := pw (hF σ 81) (xF (hD σ 74)) N) (r := r) (r' := hF σ 83) w (fun m a b => by rw [eN] at b; rw [pw_lo (by omega) (by omega)]; rfl) (fun m a b => by rw [eN] at b; rw [pw_lo a b]; rfl)
  refine ⟨⟨q.1, fun m a b => ?_, fun j a b => ?_, fun m a b c => ?_⟩, q.2⟩
  · rw [eN] at b
    show bgXF (hD σ 74) m = pw (hF σ 81) (xF (hD σ 74)) N m
    rw [pw_lo a b]; rfl
  · rw [eN] at b
    show bgXF (hD σ 74) (j / 16) = pw (hF σ 85) (fun j => xF (hD σ 74) (j / 16)) (16 * N) j
    rw [pw_lo a b]; rfl
  · rw [eN] at b
    rw [eK] at c
    show (FP.d2i (hD σ 71 m)).toInt = pw (hI σ 86) (sdB σ) N m
    rw [pw_lo a b]
    exact (if_pos c).symm
theorem it_vw : ∀ n : Nat, ptD (itH σ N n) N = ptD σ N ∧ tsD (itH σ N n) = gsn arD zcD (ptD σ N) (hD σ 69 45) (FP.ddiv (hD σ 69 45) 4611686018427387904) (tsD σ) n
  | 0 => ⟨rfl, rfl⟩
  | n + 1 => by
    obtain ⟨h1, h2⟩ := it_vw n
    obtain ⟨s1, _, s3, _⟩ := step_vw (τ := itH σ N n) (N := N)
    have e : hD (itH σ N n) 69 = hD σ 69 := itH_69D n
    rw [e, h1, h2] at s3
    rw [h1] at s1
    exact ⟨s1, s3⟩
theorem tr_vw {n : Nat} {t : UInt64} : tsD (trH σ N n t) = gsn arD zcD (ptD (begH σ N) N) t (FP.ddiv t 4611686018427387904) (tsD (begH σ N)) n := by
  have h := (it_vw (σ := leH (begH σ N) t) (N := N) n).2
  rw [leH_t] at h
  exact h
end VIEW
/-! twins of the class that agree -/
theorem tws_ag {σ : Hp} {fr : Int → Int} {seD : Int → UInt64} {seF : Int → UInt32} {nn : Int → Int} {L : List Int} {N : Nat} {PD : Pt UInt64} {PF : Pt UInt32} {TD TD' : Ts UInt64} {TF TF' : Ts UInt32} (h : Tws σ fr seD seF nn L N PD PF TD TF) (hd : TAg PD TD TD') (hf : TAg PF TF TF') : Tws σ fr seD seF nn L N PD PF TD' TF' := by
  obtain ⟨⟨a1, a2, a3, a4⟩, ⟨b1, b2, b3, b4⟩, c⟩ := h
  obtain ⟨E1, E2, E3, E4, E5, E6, E7, E8⟩ := cxd_E (row := TD.2.2.1) (st := TD.2.1) a1
  obtain ⟨F1, F2, F3, F4, F5, F6, F7, F8⟩ := cxf_E (row := TF.2.2.1) (st := TF.2.1) b1
  obtain ⟨d1, d2, d3, d4⟩ := hd
  obtain ⟨f1, f2, f3, f4⟩ := hf
  rw [E3] at d1 d2 d3 d4
  rw [F3] at f1 f2 f3 f4
  rw [E4] at d4
  rw [F4] at f4
  refine ⟨⟨?_, fun k x y => ?_, fun k x y => ?_, fun m x y z => ?_⟩, ⟨?_, fun k x y => ?_, fun k x y => ?_, fun m x y z => ?_⟩, c⟩
  · obtain ⟨g1, g2, g3, g4, g5, g6, g7⟩ := a1
    refine ⟨g1, g2, g3, g4, g5, g6, fun m x y k => ?_⟩
    obtain ⟨⟨r1, r2, r3⟩, r4⟩ := g7 m x y k
    refine ⟨⟨r1, r2, fun j j0 j1 => ?_⟩, r4⟩
    have := r3 j j0 j1
    rw [d3 (16 * m + j) (by omega) (by omega)] at this
    exact this
  · have := a2 k x y
    rw [d1 k x y] at this
    exact this
  · have := a3 k x y
    rw [d2 k x y] at this
    exact this
  · rw [a4 m x y z]; exact d4 m x y z
  · obtain ⟨g1, g2, g3, g4, g5, g6, g7⟩ := b1
    refine ⟨g1, g2, g3, g4, g5, g6, fun m x y k => ?_⟩
    obtain ⟨⟨r1, r2, r3⟩, r4⟩ := g7 m x y k
    refine ⟨⟨r1, r2, fun j j0 j1 => ?_⟩, r4⟩
    have := r3 j j0 j1
    rw [f3 (16 * m + j) (by omega) (by omega)] at this
    exact this
  · have := b2 k x y
    rw [f1 k x y] at this
    exact this
  · have := b3 k x y
    rw [f2 k x y] at this
    exact this
  · rw [b4 m x y z]; exact f4 m x y z
