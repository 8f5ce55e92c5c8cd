/-! ===== the class's twins: advance ===== -/
theorem Fq.cD {S : List Nat} {a b : Hp} {x c : Nat} {n : Int} (h : Fq S a b) (hc : c ∈ S ∧ ¬ c = 22 ∧ ¬ c = 35 ∧ ¬ c = 57) : Fq S a (cD b x c n) := ⟨fun y hy => by
  obtain ⟨a1, a2, a3, a4⟩ := h.1 y hy
  exact ⟨a1, a2, a3, by rw [(ho_cD y (fun q => hy (by rw [q]; exact hc.1))).2.2.2]; exact a4⟩, fun z k k0 k1 => by
  rw [(ho_cD 22 (fun q => hc.2.1 q.symm)).2.2.2, (ho_cD 35 (fun q => hc.2.2.1 q.symm)).2.2.2, (ho_cD 57 (fun q => hc.2.2.2 q.symm)).2.2.2]
  exact h.2 z k k0 k1⟩
section TWC10
variable {σ : Hp} {Q : Option PV → Hp → Prop}
abbrev Find (σ : Hp) (fr : Int → Int) (se : Int → UInt64) (nn : Int → Int) (row nx : Int → UInt64) (L : List Int) (N : Nat) (P : Pt UInt64) (y : (Int → UInt64) × (Int → UInt64) × (Int → Bool)) (sd f : Int → Int) (t : Int) (Q : Option PV → Hp → Prop) : Prop :=
  ∀ st' row' sd' q, st' = pw y.2.1 (othS (pK P) nx y.2.1 (fun m => zcD (sdS (pK P) sd m))) (pN P) → row' = pw row (rowS (pK P) (pNn P) row nx) (16 * pN P) → sd' = pw sd (sdS (pK P) sd) (pN P) → q = gRd arD P row' st' y.1 → ∀ τ, Fq [22, 24, 25, 26, 27, 28, 29, 30, 31, 32, 33, 20] σ τ → Cxd τ fr se nn row' L N P → Rdd τ q.1 N → Std τ st' N → Sdd τ sd' N → Lpd τ N → hI τ 20 = lms f t (fun k => y.2.2 k || q.2 k) ∧ hI τ 19 1 = t → Q none τ
theorem add_mv {τ : Hp} {fr : Int → Int} {se : Int → UInt64} {nn : Int → Int} {row nx bf K : Int → UInt64} {h : UInt64} {L : List Int} {N : Nat} {P : Pt UInt64} {x : (Int → UInt64) × (Int → UInt64) × (Int → Bool)} {sd f : Int → Int} {t : Int} (F : Fq [22, 24, 25, 26, 27, 28, 29, 30, 31, 32, 33, 20] σ τ) (hx : Cxd τ fr se nn row L N P) (hl : Lpd τ N) (hlm : hI τ 20 = lms f t x.2.2 ∧ hI τ 19 1 = t) (hr : Rdd τ x.1 N) (hco : Cod τ nx N) (hsd : Sdd τ sd N) (hfin : Find σ fr se nn row nx L N P (gMo arD P h bf K x) sd f t Q) :
    ∀ S, (∀ m : Int, 0 ≤ m → m < N → S m = cvD (pw x.2.1 (gmvS arD (hI τ 4) h bf K x.2.1) N m) ∧ BdD (pw x.2.1 (gmvS arD (hI τ 4) h bf K x.2.1) N m)) → J mT_advance 147 [(0, vR 21)] [] (wI (wD τ 24 S) 20 (lms (hI τ 20) (hI τ 19 1) (pw (fun _ => false) (gmvB arD (hI τ 4) h bf K) N))) Q := by
  intro S hS
  obtain ⟨E1, E2, E3, E4, E5, E6, E7, E8⟩ := cxd_E (row := row) (st := x.2.1) hx
  have G : Fq [24, 20] τ (wI (wD τ 24 S) 20 (lms (hI τ 20) (hI τ 19 1) (pw (fun _ => false) (gmvB arD (hI τ 4) h bf K) N))) := (Fq.rf.wD (by decide)).wI (by decide)
  have gl : hI (wI (wD τ 24 S) 20 (lms (hI τ 20) (hI τ 19 1) (pw (fun _ => false) (gmvB arD (hI τ 4) h bf K) N))) 20 = lms (hI τ 20) (hI τ 19 1) (pw (fun _ => false) (gmvB arD (hI τ 4) h bf K) N) := rfl
  have gs : hD (wI (wD τ 24 S) 20 (lms (hI τ 20) (hI τ 19 1) (pw (fun _ => false) (gmvB arD (hI τ 4) h bf K) N))) 24 = S := rfl
  have eB : pw (fun _ => false) (gmvB arD (hI τ 4) h bf K) N = gMb arD P h bf K := by unfold gMb; rw [E4, E3]
  have eS : pw x.2.1 (gmvS arD (hI τ 4) h bf K x.2.1) N = gMs arD P h bf K x.2.1 := by unfold gMs; rw [E4, E3]
  rw [eS] at hS
  generalize wI (wD τ 24 S) 20 (lms (hI τ 20) (hI τ 19 1) (pw (fun _ => false) (gmvB arD (hI τ 4) h bf K) N)) = ω at G gl gs ⊢
  rw [eB] at gl
  have g4 := G.I (c := 4) (by decide)
  have glo := G.I (c := 19) (by decide)
  have gr := G.D (c := 22) (by decide)
  have gd := G.I (c := 27) (by decide)
  have gc := G.D (c := 29) (by decide)
  refine add_end (y := gMo arD P h bf K x) (f := f) (t := t) (cxd_mv (G.weak (by decide)) hx) ⟨fun m z w => ?_, ?_⟩ ⟨?_, ?_⟩ ?_ ?_ (nx := nx) ?_ (sd := sd) ?_ (fun st' row' sd' q e1 e2 e3 e4 τ' F' => hfin st' row' sd' q e1 e2 e3 e4 τ' ((F.trans (G.weak (by decide))).trans (F'.weak (by decide))))
  · rw [gl]; exact lms_inR (hl.1 m z w) hl.2
  · rw [glo]; exact hl.2
  · rw [gl, hlm.2, hlm.1, lms_lms]; rfl
  · rw [glo]; exact hlm.2
  · unfold Rdd at hr ⊢; rw [gr]; exact hr
  · unfold Std; rw [gs]; exact hS
  · unfold Cod at hco ⊢; rw [gc, g4]; exact hco
  · unfold Sdd at hsd ⊢; rw [gd, g4]; exact hsd
abbrev Finf (σ : Hp) (fr : Int → Int) (se : Int → UInt32) (nn : Int → Int) (row nx : Int → UInt32) (L : List Int) (N : Nat) (P : Pt UInt32) (y : (Int → UInt32) × (Int → UInt32) × (Int → Bool)) (sd f : Int → Int) (t : Int) (Q : Option PV → Hp → Prop) : Prop :=
  ∀ st' row' sd' q, st' = pw y.2.1 (othS (pK P) nx y.2.1 (fun m => zcF (sdS (pK P) sd m))) (pN P) → row' = pw row (rowS (pK P) (pNn P) row nx) (16 * pN P) → sd' = pw sd (sdS (pK P) sd) (pN P) → q = gRd arF P row' st' y.1 → ∀ τ, Fq [35, 37, 38, 39, 40, 41, 42, 43, 44, 45, 46, 20] σ τ → Cxf τ fr se nn row' L N P → Rdf τ q.1 N → Stf τ st' N → Sdf τ sd' N → Lpf τ N → hI τ 20 = lms f t (fun k => y.2.2 k || q.2 k) ∧ hI τ 19 1 = t → Q none τ
theorem adf_mv {τ : Hp} {fr : Int → Int} {se : Int → UInt32} {nn : Int → Int} {row nx bf K : Int → UInt32} {h : UInt32} {L : List Int} {N : Nat} {P : Pt UInt32} {x : (Int → UInt32) × (Int → UInt32) × (Int → Bool)} {sd f : Int → Int} {t : Int} (F : Fq [35, 37, 38, 39, 40, 41, 42, 43, 44, 45, 46, 20] σ τ) (hx : Cxf τ fr se nn row L N P) (hl : Lpf τ N) (hlm : hI τ 20 = lms f t x.2.2 ∧ hI τ 19 1 = t) (hr : Rdf τ x.1 N) (hco : Cof τ nx N) (hsd : Sdf τ sd N) (hfin : Finf σ fr se nn row nx L N P (gMo arF P h bf K x) sd f t Q) :
    ∀ S, (∀ m : Int, 0 ≤ m → m < N → S m = cvF (pw x.2.1 (gmvS arF (hI τ 4) h bf K x.2.1) N m) ∧ BdF (pw x.2.1 (gmvS arF (hI τ 4) h bf K x.2.1) N m)) → J mT_advance 147 [(0, vR 34)] [] (wI (wD τ 37 S) 20 (lms (hI τ 20) (hI τ 19 1) (pw (fun _ => false) (gmvB arF (hI τ 4) h bf K) N))) Q := by
  intro S hS
  obtain ⟨E1, E2, E3, E4, E5, E6, E7, E8⟩ := cxf_E (row := row) (st := x.2.1) hx
  have G : Fq [37, 20] τ (wI (wD τ 37 S) 20 (lms (hI τ 20) (hI τ 19 1) (pw (fun _ => false) (gmvB arF (hI τ 4) h bf K) N))) := (Fq.rf.wD (by decide)).wI (by decide)
  have gl : hI (wI (wD τ 37 S) 20 (lms (hI τ 20) (hI τ 19 1) (pw (fun _ => false) (gmvB arF (hI τ 4) h bf K) N))) 20 = lms (hI τ 20) (hI τ 19 1) (pw (fun _ => false) (gmvB arF (hI τ 4) h bf K) N) := rfl
  have gs : hD (wI (wD τ 37 S) 20 (lms (hI τ 20) (hI τ 19 1) (pw (fun _ => false) (gmvB arF (hI τ 4) h bf K) N))) 37 = S := rfl
  have eB : pw (fun _ => false) (gmvB arF (hI τ 4) h bf K) N = gMb arF P h bf K := by unfold gMb; rw [E4, E3]
  have eS : pw x.2.1 (gmvS arF (hI τ 4) h bf K x.2.1) N = gMs arF P h bf K x.2.1 := by unfold gMs; rw [E4, E3]
  rw [eS] at hS
  generalize wI (wD τ 37 S) 20 (lms (hI τ 20) (hI τ 19 1) (pw (fun _ => false) (gmvB arF (hI τ 4) h bf K) N)) = ω at G gl gs ⊢
  rw [eB] at gl
  have g4 := G.I (c := 4) (by decide)
  have glo := G.I (c := 19) (by decide)
  have gr := G.D (c := 35) (by decide)
  have gd := G.I (c := 40) (by decide)
  have gc := G.D (c := 42) (by decide)
  refine adf_end (y := gMo arF P h bf K x) (f := f) (t := t) (cxf_mv (G.weak (by decide)) hx) ⟨fun m z w => ?_, ?_⟩ ⟨?_, ?_⟩ ?_ ?_ (nx := nx) ?_ (sd := sd) ?_ (fun st' row' sd' q e1 e2 e3 e4 τ' F' => hfin st' row' sd' q e1 e2 e3 e4 τ' ((F.trans (G.weak (by decide))).trans (F'.weak (by decide))))
  · rw [gl]; exact lms_inR (hl.1 m z w) hl.2
  · rw [glo]; exact hl.2
  · rw [gl, hlm.2, hlm.1, lms_lms]; rfl
  · rw [glo]; exact hlm.2
  · unfold Rdf at hr ⊢; rw [gr]; exact hr
  · unfold Stf; rw [gs]; exact hS
  · unfold Cof at hco ⊢; rw [gc, g4]; exact hco
  · unfold Sdf at hsd ⊢; rw [gd, g4]; exact hsd
abbrev Fint (σ : Hp) (fr : Int → Int) (se : Int → UInt64) (nn : Int → Int) (row nx : Int → UInt64) (L : List Int) (N : Nat) (P : Pt UInt64) (y : (Int → UInt64) × (Int → UInt64) × (Int → Bool)) (sd f : Int → Int) (t : Int) (Q : Option PV → Hp → Prop) : Prop :=
  ∀ st' row' sd' q, st' = pw y.2.1 (othS (pK P) nx y.2.1 (fun m => zcD (sdS (pK P) sd m))) (pN P) → row' = pw row (rowS (pK P) (pNn P) row nx) (16 * pN P) → sd' = pw sd (sdS (pK P) sd) (pN P) → q = gRd arD P row' st' y.1 → ∀ τ, Fq [57, 59, 60, 61, 62, 63, 64, 65, 66, 67, 68, 55] σ τ → Cxt τ fr se nn row' L N P → Rdt τ q.1 N → Stt τ st' N → Sdt τ sd' N → Lpt τ N → hI τ 55 = lms f t (fun k => y.2.2 k || q.2 k) ∧ hI τ 54 1 = t → Q none τ
theorem adt_mv {τ : Hp} {fr : Int → Int} {se : Int → UInt64} {nn : Int → Int} {row nx bf K : Int → UInt64} {h : UInt64} {L : List Int} {N : Nat} {P : Pt UInt64} {x : (Int → UInt64) × (Int → UInt64) × (Int → Bool)} {sd f : Int → Int} {t : Int} (F : Fq [57, 59, 60, 61, 62, 63, 64, 65, 66, 67, 68, 55] σ τ) (hx : Cxt τ fr se nn row L N P) (hl : Lpt τ N) (hlm : hI τ 55 = lms f t x.2.2 ∧ hI τ 54 1 = t) (hr : Rdt τ x.1 N) (hco : Cot τ nx N) (hsd : Sdt τ sd N) (hfin : Fint σ fr se nn row nx L N P (gMo arD P h bf K x) sd f t Q) :
    ∀ S, (∀ m : Int, 0 ≤ m → m < N → S m = cvD (pw x.2.1 (gmvS arD (hI τ 4) h bf K x.2.1) N m) ∧ BdD (pw x.2.1 (gmvS arD (hI τ 4) h bf K x.2.1) N m)) → J mT_advance 147 [(0, vR 56)] [] (wI (wD τ 59 S) 55 (lms (hI τ 55) (hI τ 54 1) (pw (fun _ => false) (gmvB arD (hI τ 4) h bf K) N))) Q := by
  intro S hS
  obtain ⟨E1, E2, E3, E4, E5, E6, E7, E8⟩ := cxt_E (row := row) (st := x.2.1) hx
  have G : Fq [59, 55] τ (wI (wD τ 59 S) 55 (lms (hI τ 55) (hI τ 54 1) (pw (fun _ => false) (gmvB arD (hI τ 4) h bf K) N))) := (Fq.rf.wD (by decide)).wI (by decide)
  have gl : hI (wI (wD τ 59 S) 55 (lms (hI τ 55) (hI τ 54 1) (pw (fun _ => false) (gmvB arD (hI τ 4) h bf K) N))) 55 = lms (hI τ 55) (hI τ 54 1) (pw (fun _ => false) (gmvB arD (hI τ 4) h bf K) N) := rfl
  have gs : hD (wI (wD τ 59 S) 55 (lms (hI τ 55) (hI τ 54 1) (pw (fun _ => false) (gmvB arD (hI τ 4) h bf K) N))) 59 = S := rfl
  have eB : pw (fun _ => false) (gmvB arD (hI τ 4) h bf K) N = gMb arD P h bf K := by unfold gMb; rw [E4, E3]
  have eS : pw x.2.1 (gmvS arD (hI τ 4) h bf K x.2.1) N = gMs arD P h bf K x.2.1 := by unfold gMs; rw [E4, E3]
  rw [eS] at hS
  generalize wI (wD τ 59 S) 55 (lms (hI τ 55) (hI τ 54 1) (pw (fun _ => false) (gmvB arD (hI τ 4) h bf K) N)) = ω at G gl gs ⊢
  rw [eB] at gl
  have g4 := G.I (c := 4) (by decide)
  have glo := G.I (c := 54) (by decide)
  have gr := G.D (c := 57) (by decide)
  have gd := G.I (c := 62) (by decide)
  have gc := G.D (c := 64) (by decide)
  refine adt_end (y := gMo arD P h bf K x) (f := f) (t := t) (cxt_mv (G.weak (by decide)) hx) ⟨fun m z w => ?_, ?_⟩ ⟨?_, ?_⟩ ?_ ?_ (nx := nx) ?_ (sd := sd) ?_ (fun st' row' sd' q e1 e2 e3 e4 τ' F' => hfin st' row' sd' q e1 e2 e3 e4 τ' ((F.trans (G.weak (by decide))).trans (F'.weak (by decide))))
  · rw [gl]; exact lms_inR (hl.1 m z w) hl.2
  · rw [glo]; exact hl.2
  · rw [gl, hlm.2, hlm.1, lms_lms]; rfl
  · rw [glo]; exact hlm.2
  · unfold Rdt at hr ⊢; rw [gr]; exact hr
  · unfold Stt; rw [gs]; exact hS
  · unfold Cot at hco ⊢; rw [gc, g4]; exact hco
  · unfold Sdt at hsd ⊢; rw [gd, g4]; exact hsd
end TWC10
