/-! ===== the class's twins: a step, whole ===== -/
section TWC9
variable {σ : Hp} {Q : Option PV → Hp → Prop}
abbrev Sdd (σ : Hp) (sd : Int → Int) (N : Nat) : Prop := ∀ m : Int, 0 ≤ m → m < N → hI σ 4 m = 13 → hI σ 27 m = sd m
abbrev Cod (σ : Hp) (nx : Int → UInt64) (N : Nat) : Prop := ∀ m : Int, 0 ≤ m → m < N → hI σ 4 m = 3 ∨ hI σ 4 m = 11 → hD σ 29 m = cvD (nx m) ∧ BdD (nx m)
/-- behind the moving of a step: remember, read -/
theorem add_end {fr : Int → Int} {se : Int → UInt64} {nn : Int → Int} {row nx : Int → UInt64} {L : List Int} {N : Nat} {P : Pt UInt64} {y : (Int → UInt64) × (Int → UInt64) × (Int → Bool)} {sd f : Int → Int} {t : Int} (hx : Cxd σ fr se nn row L N P) (hl : Lpd σ N) (hlm : hI σ 20 = lms f t y.2.2 ∧ hI σ 19 1 = t) (hr : Rdd σ y.1 N) (hs : Std σ y.2.1 N) (hco : Cod σ nx N) (hsd : Sdd σ sd N)
    (hQ : ∀ st' row' sd' q, st' = pw y.2.1 (othS (pK P) nx y.2.1 (fun m => zcD (sdS (pK P) sd m))) (pN P) → row' = pw row (rowS (pK P) (pNn P) row nx) (16 * pN P) → sd' = pw sd (sdS (pK P) sd) (pN P) → q = gRd arD P row' st' y.1 → ∀ τ, Fq [22, 24, 25, 26, 27, 20] σ τ → Cxd τ fr se nn row' L N P → Rdd τ q.1 N → Std τ st' N → Sdd τ sd' N → Lpd τ N → hI τ 20 = lms f t (fun k => y.2.2 k || q.2 k) ∧ hI τ 19 1 = t → Q none τ) : J mT_advance 147 [(0, vR 21)] [] σ Q := by
  obtain ⟨st', hst'⟩ : ∃ st', st' = pw y.2.1 (othS (pK P) nx y.2.1 (fun m => zcD (sdS (pK P) sd m))) (pN P) := ⟨_, rfl⟩
  obtain ⟨row', hrow'⟩ : ∃ row', row' = pw row (rowS (pK P) (pNn P) row nx) (16 * pN P) := ⟨_, rfl⟩
  obtain ⟨sd', hsd'⟩ : ∃ sd', sd' = pw sd (sdS (pK P) sd) (pN P) := ⟨_, rfl⟩
  obtain ⟨q, hq⟩ : ∃ q, q = gRd arD P row' st' y.1 := ⟨_, rfl⟩
  have hQ1 := hQ st' row' sd' q hst' hrow' hsd' hq
  clear hQ
  obtain ⟨E1, E2, E3, E4, E5, E6, E7, E8⟩ := cxd_E (row := row') (st := st') hx
  rw [E4, E3] at hst' hsd'
  rw [E4, E3, E7] at hrow'
  obtain ⟨x1, x2, x3, x4, x5, x6, x7⟩ := hx
  have go : ∀ τ, Fq [24, 25, 26, 27] σ τ → Std τ st' N → (∀ m : Int, 0 ≤ m → m < N → hI τ 4 m = 11 → RgXD (hD τ 25) (hI τ 26) nn row' m) → Sdd τ sd' N → J mT_advance 151 [(0, vR 21)] [] τ Q := by
    intro τ F hS hR hD_
    have e4 := F.I (c := 4) (by decide)
    have elm := F.I (c := 20) (by decide)
    have elo := F.I (c := 19) (by decide)
    have er := F.D (c := 22) (by decide)
    have ese := F.D (c := 23) (by decide)
    have hxτ : Cxd τ fr se nn row' L N P := by
      have e3 := F.I (c := 3) (by decide)
      have e9 := F.I (c := 9) (by decide)
      have e10 := F.I (c := 10) (by decide)
      have e11 := F.I (c := 11) (by decide)
      have e12 := F.D (c := 12) (by decide)
      have e13 := F.D (c := 13) (by decide)
      have e15 := F.I (c := 15) (by decide)
      have e17 := F.I (c := 17) (by decide)
      have eb := F.I (c := 21) (by decide)
      refine ⟨?_, ?_, ?_, ?_, ?_, ?_, fun m z w k => ⟨hR m z w k, ?_⟩⟩
      · rw [← x1]; unfold Pcd; rw [e4, e10, e11, e12, e13, e3]
      · unfold CtI at x2 ⊢; rw [e3, e4, e9, e10]; exact x2
      · rw [eb]; exact x3
      · unfold PatW at x4 ⊢; rw [e4, e11, e12, e13]; exact x4
      · unfold OrdC at x5 ⊢; rw [e15, e17]; exact x5
      · rw [ese, e4]; exact x6
      · rw [e4] at k; rw [ese]; exact (x7 m z w k).2
    have hrτ : Rdd τ y.1 N := by unfold Rdd at hr ⊢; rw [er]; exact hr
    have hlτ : Lpd τ N := by unfold Lpd at hl ⊢; rw [elm, elo]; exact hl
    have eE : Ecd τ fr se row' st' = pEv P row' st' := (cxd_E hxτ).1.symm
    refine j_aload_n (p2 := 152) dT_advance_151 rfl rfl ?_
    refine j_callV (m' := mT_readAll) (As := []) (p2 := 155) dT_advance_152 rfl ml_T_81 ok_mT_readAll im_mT_readAll se_mT_readAll rfl rfl (Nat.le_of_ble_eq_true rfl) ly_21 rfl (Nat.le_of_ble_eq_true rfl) ⟨(Nat.le_of_ble_eq_true rfl), (Nat.le_of_ble_eq_true rfl)⟩ ?_
    refine cTd_readAll (se := se) (row := row') (st := st') (r := y.1) (L := L) hxτ.2.1 hxτ.2.2.1 hrτ (cxd_mo hxτ hS) hlτ hxτ.2.2.2.2.1 (fun a ha hta => ?_)
    rw [eE, ← E2] at ha
    rw [eE, ← E2]
    have ha2 : ∀ k : Int, 0 ≤ k → k < N → a k = cvD (q.1 k) ∧ BdD (q.1 k) := by rw [hq]; exact ha
    have e2 : (gread arD (pEv P row' st') (pOr P) (y.1, fun _ => false)).2 = q.2 := by rw [hq]; rfl
    rw [e2]
    clear ha
    have last : ∀ a, (∀ k : Int, 0 ≤ k → k < N → a k = cvD (q.1 k) ∧ BdD (q.1 k)) → (∀ k : Int, (N : Int) ≤ k → a k = hD τ 22 k) → Q none (wI (wD τ 22 a) 20 (lms (hI τ 20) (hI τ 19 1) q.2)) := fun a ha hta => by
      have G : Fq [22, 20] τ (wI (wD τ 22 a) 20 (lms (hI τ 20) (hI τ 19 1) q.2)) := (Fq.rf.wR (by decide) (by exact k20d ha hta)).wI (by decide)
      have gl : hI (wI (wD τ 22 a) 20 (lms (hI τ 20) (hI τ 19 1) q.2)) 20 = lms (hI τ 20) (hI τ 19 1) q.2 := rfl
      have gr : hD (wI (wD τ 22 a) 20 (lms (hI τ 20) (hI τ 19 1) q.2)) 22 = a := rfl
      generalize wI (wD τ 22 a) 20 (lms (hI τ 20) (hI τ 19 1) q.2) = ω at G gl gr ⊢
      have g4 := G.I (c := 4) (by decide)
      have gs := G.D (c := 24) (by decide)
      have gd := G.I (c := 27) (by decide)
      have glo := G.I (c := 19) (by decide)
      refine hQ1 ω ((F.weak (by decide)).trans (G.weak (by decide))) (cxd_mv (G.weak (by decide)) hxτ) ?_ ?_ ?_ ⟨fun m z w => ?_, ?_⟩ ⟨?_, ?_⟩
      · unfold Rdd; rw [gr]; exact ha
      · unfold Std at hS ⊢; rw [gs]; exact hS
      · unfold Sdd at hD_ ⊢; rw [gd, g4]; exact hD_
      · rw [gl]; exact lms_inR (hlτ.1 m z w) hlτ.2
      · rw [glo]; exact hlτ.2
      · rw [gl, elm, elo, hlm.2, hlm.1, lms_lms]
      · rw [glo, elo]; exact hlm.2
    refine j_return dT_advance_155 rfl (by exact last a ha2 hta)
  refine j_aload_n (p2 := 148) dT_advance_147 rfl rfl ?_
  refine j_callV (m' := mT_remember) (As := []) (p2 := 151) dT_advance_148 rfl ml_T_116 ok_mT_remember im_mT_remember se_mT_remember rfl rfl (Nat.le_of_ble_eq_true rfl) ly_21 rfl (Nat.le_of_ble_eq_true rfl) ⟨(Nat.le_of_ble_eq_true rfl), (Nat.le_of_ble_eq_true rfl)⟩ ?_
  refine cTd_remember (st := y.2.1) (nx := nx) (row := row) (nn := nn) (sd := sd) x2 x3 hs hco x7 hsd (fun S R O D hS hR hD_ => ?_)
  refine J.loc (lv' := [(0, _)]) ⟨rfl, trivial⟩ ?_
  have F : Fq [24, 25, 26, 27] σ (rmd σ S R O D) := (((Fq.rf.wD (by decide)).wD (by decide)).wI (by decide)).wI (by decide)
  refine go _ F ?_ ?_ ?_
  · rw [hst']; exact hS
  · rw [hrow']; exact hR
  · rw [hsd']; exact hD_
abbrev Sdf (σ : Hp) (sd : Int → Int) (N : Nat) : Prop := ∀ m : Int, 0 ≤ m → m < N → hI σ 4 m = 13 → hI σ 40 m = sd m
abbrev Cof (σ : Hp) (nx : Int → UInt32) (N : Nat) : Prop := ∀ m : Int, 0 ≤ m → m < N → hI σ 4 m = 3 ∨ hI σ 4 m = 11 → hD σ 42 m = cvF (nx m) ∧ BdF (nx m)
/-- behind the moving of a step: remember, read -/
theorem adf_end {fr : Int → Int} {se : Int → UInt32} {nn : Int → Int} {row nx : Int → UInt32} {L : List Int} {N : Nat} {P : Pt UInt32} {y : (Int → UInt32) × (Int → UInt32) × (Int → Bool)} {sd f : Int → Int} {t : Int} (hx : Cxf σ fr se nn row L N P) (hl : Lpf σ N) (hlm : hI σ 20 = lms f t y.2.2 ∧ hI σ 19 1 = t) (hr : Rdf σ y.1 N) (hs : Stf σ y.2.1 N) (hco : Cof σ nx N) (hsd : Sdf σ sd N)
    (hQ : ∀ st' row' sd' q, st' = pw y.2.1 (othS (pK P) nx y.2.1 (fun m => zcF (sdS (pK P) sd m))) (pN P) → row' = pw row (rowS (pK P) (pNn P) row nx) (16 * pN P) → sd' = pw sd (sdS (pK P) sd) (pN P) → q = gRd arF P row' st' y.1 → ∀ τ, Fq [35, 37, 38, 39, 40, 20] σ τ → Cxf τ fr se nn row' L N P → Rdf τ q.1 N → Stf τ st' N → Sdf τ sd' N → Lpf τ N → hI τ 20 = lms f t (fun k => y.2.2 k || q.2 k) ∧ hI τ 19 1 = t → Q none τ) : J mT_advance 147 [(0, vR 34)] [] σ Q := by
  obtain ⟨st', hst'⟩ : ∃ st', st' = pw y.2.1 (othS (pK P) nx y.2.1 (fun m => zcF (sdS (pK P) sd m))) (pN P) := ⟨_, rfl⟩
  obtain ⟨row', hrow'⟩ : ∃ row', row' = pw row (rowS (pK P) (pNn P) row nx) (16 * pN P) := ⟨_, rfl⟩
  obtain ⟨sd', hsd'⟩ : ∃ sd', sd' = pw sd (sdS (pK P) sd) (pN P) := ⟨_, rfl⟩
  obtain ⟨q, hq⟩ : ∃ q, q = gRd arF P row' st' y.1 := ⟨_, rfl⟩
  have hQ1 := hQ st' row' sd' q hst' hrow' hsd' hq
  clear hQ
  obtain ⟨E1, E2, E3, E4, E5, E6, E7, E8⟩ := cxf_E (row := row') (st := st') hx
  rw [E4, E3] at hst' hsd'
  rw [E4, E3, E7] at hrow'
  obtain ⟨x1, x2, x3, x4, x5, x6, x7⟩ := hx
  have go : ∀ τ, Fq [37, 38, 39, 40] σ τ → Stf τ st' N → (∀ m : Int, 0 ≤ m → m < N → hI τ 4 m = 11 → RgXF (hD τ 38) (hI τ 39) nn row' m) → Sdf τ sd' N → J mT_advance 151 [(0, vR 34)] [] τ Q := by
    intro τ F hS hR hD_
    have e4 := F.I (c := 4) (by decide)
    have elm := F.I (c := 20) (by decide)
    have elo := F.I (c := 19) (by decide)
    have er := F.D (c := 35) (by decide)
    have ese := F.D (c := 36) (by decide)
    have hxτ : Cxf τ fr se nn row' L N P := by
      have e3 := F.I (c := 3) (by decide)
      have e9 := F.I (c := 9) (by decide)
      have e10 := F.I (c := 10) (by decide)
      have e11 := F.I (c := 11) (by decide)
      have e12 := F.D (c := 12) (by decide)
      have e13 := F.D (c := 13) (by decide)
      have e15 := F.I (c := 15) (by decide)
      have e17 := F.I (c := 17) (by decide)
      have eb := F.I (c := 34) (by decide)
      refine ⟨?_, ?_, ?_, ?_, ?_, ?_, fun m z w k => ⟨hR m z w k, ?_⟩⟩
      · rw [← x1]; unfold Pcf; rw [e4, e10, e11, e12, e13, e3]
      · unfold CtI at x2 ⊢; rw [e3, e4, e9, e10]; exact x2
      · rw [eb]; exact x3
      · unfold PatW at x4 ⊢; rw [e4, e11, e12, e13]; exact x4
      · unfold OrdC at x5 ⊢; rw [e15, e17]; exact x5
      · rw [ese, e4]; exact x6
      · rw [e4] at k; rw [ese]; exact (x7 m z w k).2
    have hrτ : Rdf τ y.1 N := by unfold Rdf at hr ⊢; rw [er]; exact hr
    have hlτ : Lpf τ N := by unfold Lpf at hl ⊢; rw [elm, elo]; exact hl
    have eE : Ecf τ fr se row' st' = pEv P row' st' := (cxf_E hxτ).1.symm
    refine j_aload_n (p2 := 152) dT_advance_151 rfl rfl ?_
    refine j_callV (m' := mT_readAll) (As := []) (p2 := 155) dT_advance_152 rfl ml_T_81 ok_mT_readAll im_mT_readAll se_mT_readAll rfl rfl (Nat.le_of_ble_eq_true rfl) ly_34 rfl (Nat.le_of_ble_eq_true rfl) ⟨(Nat.le_of_ble_eq_true rfl), (Nat.le_of_ble_eq_true rfl)⟩ ?_
    refine cTf_readAll (se := se) (row := row') (st := st') (r := y.1) (L := L) hxτ.2.1 hxτ.2.2.1 hrτ (cxf_mo hxτ hS) hlτ hxτ.2.2.2.2.1 (fun a ha hta => ?_)
    rw [eE, ← E2] at ha
    rw [eE, ← E2]
    have ha2 : ∀ k : Int, 0 ≤ k → k < N → a k = cvF (q.1 k) ∧ BdF (q.1 k) := by rw [hq]; exact ha
    have e2 : (gread arF (pEv P row' st') (pOr P) (y.1, fun _ => false)).2 = q.2 := by rw [hq]; rfl
    rw [e2]
    clear ha
    have last : ∀ a, (∀ k : Int, 0 ≤ k → k < N → a k = cvF (q.1 k) ∧ BdF (q.1 k)) → (∀ k : Int, (N : Int) ≤ k → a k = hD τ 35 k) → Q none (wI (wD τ 35 a) 20 (lms (hI τ 20) (hI τ 19 1) q.2)) := fun a ha hta => by
      have G : Fq [35, 20] τ (wI (wD τ 35 a) 20 (lms (hI τ 20) (hI τ 19 1) q.2)) := (Fq.rf.wR (by decide) (by exact k20f ha hta)).wI (by decide)
      have gl : hI (wI (wD τ 35 a) 20 (lms (hI τ 20) (hI τ 19 1) q.2)) 20 = lms (hI τ 20) (hI τ 19 1) q.2 := rfl
      have gr : hD (wI (wD τ 35 a) 20 (lms (hI τ 20) (hI τ 19 1) q.2)) 35 = a := rfl
      generalize wI (wD τ 35 a) 20 (lms (hI τ 20) (hI τ 19 1) q.2) = ω at G gl gr ⊢
      have g4 := G.I (c := 4) (by decide)
      have gs := G.D (c := 37) (by decide)
      have gd := G.I (c := 40) (by decide)
      have glo := G.I (c := 19) (by decide)
      refine hQ1 ω ((F.weak (by decide)).trans (G.weak (by decide))) (cxf_mv (G.weak (by decide)) hxτ) ?_ ?_ ?_ ⟨fun m z w => ?_, ?_⟩ ⟨?_, ?_⟩
      · unfold Rdf; rw [gr]; exact ha
      · unfold Stf at hS ⊢; rw [gs]; exact hS
      · unfold Sdf at hD_ ⊢; rw [gd, g4]; exact hD_
      · rw [gl]; exact lms_inR (hlτ.1 m z w) hlτ.2
      · rw [glo]; exact hlτ.2
      · rw [gl, elm, elo, hlm.2, hlm.1, lms_lms]
      · rw [glo, elo]; exact hlm.2
    refine j_return dT_advance_155 rfl (by exact last a ha2 hta)
  refine j_aload_n (p2 := 148) dT_advance_147 rfl rfl ?_
  refine j_callV (m' := mT_remember) (As := []) (p2 := 151) dT_advance_148 rfl ml_T_116 ok_mT_remember im_mT_remember se_mT_remember rfl rfl (Nat.le_of_ble_eq_true rfl) ly_34 rfl (Nat.le_of_ble_eq_true rfl) ⟨(Nat.le_of_ble_eq_true rfl), (Nat.le_of_ble_eq_true rfl)⟩ ?_
  refine cTf_remember (st := y.2.1) (nx := nx) (row := row) (nn := nn) (sd := sd) x2 x3 hs hco x7 hsd (fun S R O D hS hR hD_ => ?_)
  refine J.loc (lv' := [(0, _)]) ⟨rfl, trivial⟩ ?_
  have F : Fq [37, 38, 39, 40] σ (rmf σ S R O D) := (((Fq.rf.wD (by decide)).wD (by decide)).wI (by decide)).wI (by decide)
  refine go _ F ?_ ?_ ?_
  · rw [hst']; exact hS
  · rw [hrow']; exact hR
  · rw [hsd']; exact hD_
abbrev Sdt (σ : Hp) (sd : Int → Int) (N : Nat) : Prop := ∀ m : Int, 0 ≤ m → m < N → hI σ 4 m = 13 → hI σ 62 m = sd m
abbrev Cot (σ : Hp) (nx : Int → UInt64) (N : Nat) : Prop := ∀ m : Int, 0 ≤ m → m < N → hI σ 4 m = 3 ∨ hI σ 4 m = 11 → hD σ 64 m = cvD (nx m) ∧ BdD (nx m)
/-- behind the moving of a step: remember, read -/
theorem adt_end {fr : Int → Int} {se : Int → UInt64} {nn : Int → Int} {row nx : Int → UInt64} {L : List Int} {N : Nat} {P : Pt UInt64} {y : (Int → UInt64) × (Int → UInt64) × (Int → Bool)} {sd f : Int → Int} {t : Int} (hx : Cxt σ fr se nn row L N P) (hl : Lpt σ N) (hlm : hI σ 55 = lms f t y.2.2 ∧ hI σ 54 1 = t) (hr : Rdt σ y.1 N) (hs : Stt σ y.2.1 N) (hco : Cot σ nx N) (hsd : Sdt σ sd N)
    (hQ : ∀ st' row' sd' q, st' = pw y.2.1 (othS (pK P) nx y.2.1 (fun m => zcD (sdS (pK P) sd m))) (pN P) → row' = pw row (rowS (pK P) (pNn P) row nx) (16 * pN P) → sd' = pw sd (sdS (pK P) sd) (pN P) → q = gRd arD P row' st' y.1 → ∀ τ, Fq [57, 59, 60, 61, 62, 55] σ τ → Cxt τ fr se nn row' L N P → Rdt τ q.1 N → Stt τ st' N → Sdt τ sd' N → Lpt τ N → hI τ 55 = lms f t (fun k => y.2.2 k || q.2 k) ∧ hI τ 54 1 = t → Q none τ) : J mT_advance 147 [(0, vR 56)] [] σ Q := by
  obtain ⟨st', hst'⟩ : ∃ st', st' = pw y.2.1 (othS (pK P) nx y.2.1 (fun m => zcD (sdS (pK P) sd m))) (pN P) := ⟨_, rfl⟩
  obtain ⟨row', hrow'⟩ : ∃ row', row' = pw row (rowS (pK P) (pNn P) row nx) (16 * pN P) := ⟨_, rfl⟩
  obtain ⟨sd', hsd'⟩ : ∃ sd', sd' = pw sd (sdS (pK P) sd) (pN P) := ⟨_, rfl⟩
  obtain ⟨q, hq⟩ : ∃ q, q = gRd arD P row' st' y.1 := ⟨_, rfl⟩
  have hQ1 := hQ st' row' sd' q hst' hrow' hsd' hq
  clear hQ
  obtain ⟨E1, E2, E3, E4, E5, E6, E7, E8⟩ := cxt_E (row := row') (st := st') hx
  rw [E4, E3] at hst' hsd'
  rw [E4, E3, E7] at hrow'
  obtain ⟨x1, x2, x3, x4, x5, x6, x7⟩ := hx
  have go : ∀ τ, Fq [59, 60, 61, 62] σ τ → Stt τ st' N → (∀ m : Int, 0 ≤ m → m < N → hI τ 4 m = 11 → RgXD (hD τ 60) (hI τ 61) nn row' m) → Sdt τ sd' N → J mT_advance 151 [(0, vR 56)] [] τ Q := by
    intro τ F hS hR hD_
    have e4 := F.I (c := 4) (by decide)
    have elm := F.I (c := 55) (by decide)
    have elo := F.I (c := 54) (by decide)
    have er := F.D (c := 57) (by decide)
    have ese := F.D (c := 58) (by decide)
    have hxτ : Cxt τ fr se nn row' L N P := by
      have e3 := F.I (c := 3) (by decide)
      have e9 := F.I (c := 9) (by decide)
      have e10 := F.I (c := 10) (by decide)
      have e11 := F.I (c := 11) (by decide)
      have e12 := F.D (c := 12) (by decide)
      have e13 := F.D (c := 13) (by decide)
      have e15 := F.I (c := 15) (by decide)
      have e17 := F.I (c := 17) (by decide)
      have eb := F.I (c := 56) (by decide)
      refine ⟨?_, ?_, ?_, ?_, ?_, ?_, fun m z w k => ⟨hR m z w k, ?_⟩⟩
      · rw [← x1]; unfold Pct; rw [e4, e10, e11, e12, e13, e3]
      · unfold CtI at x2 ⊢; rw [e3, e4, e9, e10]; exact x2
      · rw [eb]; exact x3
      · unfold PatW at x4 ⊢; rw [e4, e11, e12, e13]; exact x4
      · unfold OrdC at x5 ⊢; rw [e15, e17]; exact x5
      · rw [ese, e4]; exact x6
      · rw [e4] at k; rw [ese]; exact (x7 m z w k).2
    have hrτ : Rdt τ y.1 N := by unfold Rdt at hr ⊢; rw [er]; exact hr
    have hlτ : Lpt τ N := by unfold Lpt at hl ⊢; rw [elm, elo]; exact hl
    have eE : Ect τ fr se row' st' = pEv P row' st' := (cxt_E hxτ).1.symm
    refine j_aload_n (p2 := 152) dT_advance_151 rfl rfl ?_
    refine j_callV (m' := mT_readAll) (As := []) (p2 := 155) dT_advance_152 rfl ml_T_81 ok_mT_readAll im_mT_readAll se_mT_readAll rfl rfl (Nat.le_of_ble_eq_true rfl) ly_56 rfl (Nat.le_of_ble_eq_true rfl) ⟨(Nat.le_of_ble_eq_true rfl), (Nat.le_of_ble_eq_true rfl)⟩ ?_
    refine cTt_readAll (se := se) (row := row') (st := st') (r := y.1) (L := L) hxτ.2.1 hxτ.2.2.1 hrτ (cxt_mo hxτ hS) hlτ hxτ.2.2.2.2.1 (fun a ha hta => ?_)
    rw [eE, ← E2] at ha
    rw [eE, ← E2]
    have ha2 : ∀ k : Int, 0 ≤ k → k < N → a k = cvD (q.1 k) ∧ BdD (q.1 k) := by rw [hq]; exact ha
    have e2 : (gread arD (pEv P row' st') (pOr P) (y.1, fun _ => false)).2 = q.2 := by rw [hq]; rfl
    rw [e2]
    clear ha
    have last : ∀ a, (∀ k : Int, 0 ≤ k → k < N → a k = cvD (q.1 k) ∧ BdD (q.1 k)) → (∀ k : Int, (N : Int) ≤ k → a k = hD τ 57 k) → Q none (wI (wD τ 57 a) 55 (lms (hI τ 55) (hI τ 54 1) q.2)) := fun a ha hta => by
      have G : Fq [57, 55] τ (wI (wD τ 57 a) 55 (lms (hI τ 55) (hI τ 54 1) q.2)) := (Fq.rf.wR (by decide) (by exact k20t ha hta)).wI (by decide)
      have gl : hI (wI (wD τ 57 a) 55 (lms (hI τ 55) (hI τ 54 1) q.2)) 55 = lms (hI τ 55) (hI τ 54 1) q.2 := rfl
      have gr : hD (wI (wD τ 57 a) 55 (lms (hI τ 55) (hI τ 54 1) q.2)) 57 = a := rfl
      generalize wI (wD τ 57 a) 55 (lms (hI τ 55) (hI τ 54 1) q.2) = ω at G gl gr ⊢
      have g4 := G.I (c := 4) (by decide)
      have gs := G.D (c := 59) (by decide)
      have gd := G.I (c := 62) (by decide)
      have glo := G.I (c := 54) (by decide)
      refine hQ1 ω ((F.weak (by decide)).trans (G.weak (by decide))) (cxt_mv (G.weak (by decide)) hxτ) ?_ ?_ ?_ ⟨fun m z w => ?_, ?_⟩ ⟨?_, ?_⟩
      · unfold Rdt; rw [gr]; exact ha
      · unfold Stt at hS ⊢; rw [gs]; exact hS
      · unfold Sdt at hD_ ⊢; rw [gd, g4]; exact hD_
      · rw [gl]; exact lms_inR (hlτ.1 m z w) hlτ.2
      · rw [glo]; exact hlτ.2
      · rw [gl, elm, elo, hlm.2, hlm.1, lms_lms]
      · rw [glo, elo]; exact hlm.2
    refine j_return dT_advance_155 rfl (by exact last a ha2 hta)
  refine j_aload_n (p2 := 148) dT_advance_147 rfl rfl ?_
  refine j_callV (m' := mT_remember) (As := []) (p2 := 151) dT_advance_148 rfl ml_T_116 ok_mT_remember im_mT_remember se_mT_remember rfl rfl (Nat.le_of_ble_eq_true rfl) ly_56 rfl (Nat.le_of_ble_eq_true rfl) ⟨(Nat.le_of_ble_eq_true rfl), (Nat.le_of_ble_eq_true rfl)⟩ ?_
  refine cTt_remember (st := y.2.1) (nx := nx) (row := row) (nn := nn) (sd := sd) x2 x3 hs hco x7 hsd (fun S R O D hS hR hD_ => ?_)
  refine J.loc (lv' := [(0, _)]) ⟨rfl, trivial⟩ ?_
  have F : Fq [59, 60, 61, 62] σ (rmt σ S R O D) := (((Fq.rf.wD (by decide)).wD (by decide)).wI (by decide)).wI (by decide)
  refine go _ F ?_ ?_ ?_
  · rw [hst']; exact hS
  · rw [hrow']; exact hR
  · rw [hsd']; exact hD_
end TWC9
