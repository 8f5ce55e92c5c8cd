/-! ===== the class's twins: toStart ===== -/
/-- the states at START, as a twin has them -/
def bgXD (f : Int → UInt64) : Int → UInt64 := f
theorem bgX_cvD (f : Int → UInt64) (m : Int) : rndC false (f m) = cvD (bgXD f m) := rfl
/-- the states at START, as a twin has them -/
def bgXF (f : Int → UInt64) : Int → UInt32 := xF f
theorem bgX_cvF (f : Int → UInt64) (m : Int) : rndC true (f m) = cvF (bgXF f m) := rfl
theorem bgX_bdD {f : Int → UInt64} {m : Int} (h : (f m).toNat % 2 ^ 63 ≤ 4609434218613702656) : BdD (bgXD f m) := mg_15 h
theorem bgX_bdF {f : Int → UInt64} {m : Int} (h : (f m).toNat % 2 ^ 63 ≤ 4609434218613702656) : BdF (bgXF f m) := mf_15 (d2f_15 h)
theorem nn_15 {x : UInt64} (h : x.toNat % 2 ^ 63 ≤ 4609434218613702656) : vf_n64 x := (mg_15 h).nn (by decide)
section TWC14
variable {σ : Hp} {Q : Option PV → Hp → Prop}
theorem cTd_toStart {fr : Int → Int} {c : Int} {v : UInt64} {nn : Int → Int} {r : Int → UInt64} {L : List Int} {N : Nat} (hc : CtI σ fr N) (hfl : hI σ 21 3 = 0) (hcr : inR c) (hpw : PatW σ fr N) (hord : OrdC σ L N) (hl : Lpd σ N) (hr : Rdd σ r N) (hsv : ∀ m : Int, 0 ≤ m → m < N → vf_n64 (svC σ c v m) ∧ (hD σ 8 m).toNat % 2 ^ 63 ≤ 4609434218613702656 ∧ (hI σ 4 m = 10 ∨ hI σ 4 m = 12 → BdD (bgXD (svC σ c v) m)) ∧ (hI σ 4 m = 11 → (1 ≤ nn m ∧ nn m ≤ 16) ∧ SCmp (rndC false (svC σ c v m)) (nn m)))
    (hQ : ∀ P q, P = Pcd σ fr (bgXD (svC σ c v)) nn L N → q = gRd arD P (fun j => bgXD (hD σ 8) (j / 16)) (bgXD (hD σ 8)) r → ∀ τ, Fq [22, 23, 24, 25, 26, 27, 20] σ τ → Cxd τ fr (bgXD (svC σ c v)) nn (fun j => bgXD (hD σ 8) (j / 16)) L N P → Rdd τ q.1 N → Std τ (bgXD (hD σ 8)) N → (∀ m : Int, 0 ≤ m → m < N → hI τ 27 m = (FP.d2i (svC σ c v m)).toInt) → Lpd τ N → hI τ 20 = lms (hI σ 20) (hI σ 19 1) q.2 ∧ hI τ 19 1 = hI σ 19 1 → Q none τ) : Sp mT_toStart [vR 21, vI c, vD v] σ Q := by
  have hQ1 := hQ _ _ rfl rfl
  clear hQ
  have go : ∀ τ, Fq [23, 24, 25, 27, 26] σ τ → (∀ m : Int, 0 ≤ m → m < N → hD τ 23 m = rndC false (svC σ c v m) ∧ hD τ 24 m = rndC false (hD σ 8 m) ∧ hI τ 27 m = (FP.d2i (svC σ c v m)).toInt ∧ hI τ 26 m = 0 ∧ ∀ j : Int, 0 ≤ j → j < 16 → hD τ 25 (m * 16 + j) = rndC false (hD σ 8 m)) → J mT_toStart 134 [(0, vR 21)] [] τ Q := by
    intro τ F hna
    have e3 := F.I (c := 3) (by decide)
    have e4 := F.I (c := 4) (by decide)
    have e9 := F.I (c := 9) (by decide)
    have e10 := F.I (c := 10) (by decide)
    have e11 := F.I (c := 11) (by decide)
    have e12 := F.D (c := 12) (by decide)
    have e13 := F.D (c := 13) (by decide)
    have e15 := F.I (c := 15) (by decide)
    have e17 := F.I (c := 17) (by decide)
    have eb := F.I (c := 21) (by decide)
    have elm := F.I (c := 20) (by decide)
    have elo := F.I (c := 19) (by decide)
    have er := F.D (c := 22) (by decide)
    have hs : Std τ (bgXD (hD σ 8)) N := fun m x y => by
      rw [(hna m x y).2.1]; exact ⟨rfl, bgX_bdD (hsv m x y).2.1⟩
    have hx : Cxd τ fr (bgXD (svC σ c v)) nn (fun j => bgXD (hD σ 8) (j / 16)) L N (Pcd σ fr (bgXD (svC σ c v)) nn L N) := by
      refine ⟨?_, ?_, ?_, ?_, ?_, fun m x y => ?_, fun m x y k => ?_⟩
      · unfold Pcd; rw [e4, e10, e11, e12, e13, e3]
      · unfold CtI at hc ⊢; rw [e3, e4, e9, e10]; exact hc
      · rw [eb]; exact hfl
      · unfold PatW at hpw ⊢; rw [e4, e11, e12, e13]; exact hpw
      · unfold OrdC at hord ⊢; rw [e15, e17]; exact hord
      · rw [(hna m x y).1, e4]; exact ⟨rfl, (hsv m x y).2.2.1⟩
      · rw [e4] at k
        obtain ⟨k1, k2⟩ := (hsv m x y).2.2.2 k
        obtain ⟨z1, z2, z3, z4, z5⟩ := hna m x y
        refine ⟨⟨k1, by rw [z4]; omega, fun j j0 j1 => ?_⟩, by rw [z1]; exact k2⟩
        have e : rix (hI τ 26 m) j (nn m) = j := by unfold rix; rw [z4, if_pos (by omega)]; omega
        have e2 : (16 * m + j) / 16 = m := by omega
        rw [e, z5 j j0 (by omega)]
        show _ = cvD (bgXD (hD σ 8) ((16 * m + j) / 16)) ∧ BdD (bgXD (hD σ 8) ((16 * m + j) / 16))
        rw [e2]
        exact ⟨rfl, bgX_bdD (hsv m x y).2.1⟩
    have hrτ : Rdd τ r N := by unfold Rdd at hr ⊢; rw [er]; exact hr
    have hlτ : Lpd τ N := by unfold Lpd at hl ⊢; rw [elm, elo]; exact hl
    obtain ⟨P, hP⟩ : ∃ P, P = Pcd σ fr (bgXD (svC σ c v)) nn L N := ⟨_, rfl⟩
    rw [← hP] at hx hQ1
    obtain ⟨row, hrow⟩ : ∃ row, row = fun j => bgXD (hD σ 8) (j / 16) := ⟨_, rfl⟩
    rw [← hrow] at hx hQ1
    obtain ⟨st, hst⟩ : ∃ st, st = bgXD (hD σ 8) := ⟨_, rfl⟩
    rw [← hst] at hs hQ1
    obtain ⟨se, hse⟩ : ∃ se, se = bgXD (svC σ c v) := ⟨_, rfl⟩
    rw [← hse] at hx hQ1
    obtain ⟨E1, E2, E3, E4, E5, E6, E7, E8⟩ := cxd_E (row := row) (st := st) hx
    have last : ∀ a, (∀ k : Int, 0 ≤ k → k < N → a k = cvD ((gRd arD P row st r).1 k) ∧ BdD ((gRd arD P row st r).1 k)) → (∀ k : Int, (N : Int) ≤ k → a k = hD τ 22 k) → Q none (wI (wD τ 22 a) 20 (lms (hI τ 20) (hI τ 19 1) (gRd arD P row st r).2)) := fun a ha hta => by
      have G : Fq [22, 20] τ (wI (wD τ 22 a) 20 (lms (hI τ 20) (hI τ 19 1) (gRd arD P row st r).2)) := (Fq.rf.wR (by decide) (by exact k20d ha hta)).wI (by decide)
      have gl : hI (wI (wD τ 22 a) 20 (lms (hI τ 20) (hI τ 19 1) (gRd arD P row st r).2)) 20 = lms (hI τ 20) (hI τ 19 1) (gRd arD P row st r).2 := rfl
      have gr : hD (wI (wD τ 22 a) 20 (lms (hI τ 20) (hI τ 19 1) (gRd arD P row st r).2)) 22 = a := rfl
      generalize wI (wD τ 22 a) 20 (lms (hI τ 20) (hI τ 19 1) (gRd arD P row st r).2) = ω at G gl gr ⊢
      refine hQ1 ω ((F.weak (by decide)).trans (G.weak (by decide))) (cxd_mv (G.weak (by decide)) hx) ?_ ?_ (fun m x y => ?_) ⟨fun m x y => ?_, ?_⟩ ⟨?_, ?_⟩
      · unfold Rdd; rw [gr]; exact ha
      · unfold Std at hs ⊢; rw [G.D (c := 24) (by decide)]; exact hs
      · rw [G.I (c := 27) (by decide)]; exact (hna m x y).2.2.1
      · rw [gl]; exact lms_inR (hlτ.1 m x y) hlτ.2
      · rw [G.I (c := 19) (by decide)]; exact hlτ.2
      · rw [gl, elm, elo]
      · rw [G.I (c := 19) (by decide), elo]
    have eE : Ecd τ fr se row st = pEv P row st := E1.symm
    refine j_aload_n (p2 := 135) dT_toStart_134 rfl rfl ?_
    refine j_callV (m' := mT_readAll) (As := []) (p2 := 138) dT_toStart_135 rfl ml_T_81 ok_mT_readAll im_mT_readAll se_mT_readAll rfl rfl (Nat.le_of_ble_eq_true rfl) ly_21 rfl (Nat.le_of_ble_eq_true rfl) ⟨(Nat.le_of_ble_eq_true rfl), (Nat.le_of_ble_eq_true rfl)⟩ ?_
    refine cTd_readAll (se := se) (row := row) (st := st) (r := r) (L := L) hx.2.1 hx.2.2.1 hrτ (cxd_mo hx hs) hlτ hx.2.2.2.2.1 (fun a ha hta => ?_)
    rw [eE, ← E2] at ha
    rw [eE, ← E2]
    refine j_return dT_toStart_138 rfl (by exact last a ha hta)
  refine j_iconst (p2 := 1) dT_toStart_0 rfl ?_
  refine j_istore (p2 := 3) (lv' := [(0, _), (1, _), (2, _), (4, _)]) dT_toStart_1 rfl (Nat.le_of_ble_eq_true rfl) ⟨rfl, rfl, rfl, rfl, trivial⟩ ?_
  refine J.loc (lv' := [(0, _), (1, _), (2, _), (4, _)]) ⟨rfl, rfl, rfl, rfl, trivial⟩ ?_
  refine tsd_loop ⟨hc.1, hc.2.1⟩ hfl hcr (fun m x y => ⟨(hsv m x y).1, nn_15 (hsv m x y).2.1⟩) (fun a b w d o hna => ?_)
  exact go _ ((((Fq.rf.wD (by decide)).wD (by decide)).wD (by decide)).wI (by decide) |>.wI (by decide)) hna
theorem cTf_toStart {fr : Int → Int} {c : Int} {v : UInt64} {nn : Int → Int} {r : Int → UInt32} {L : List Int} {N : Nat} (hc : CtI σ fr N) (hfl : hI σ 34 3 = 1) (hcr : inR c) (hpw : PatW σ fr N) (hord : OrdC σ L N) (hl : Lpf σ N) (hr : Rdf σ r N) (hsv : ∀ m : Int, 0 ≤ m → m < N → vf_n64 (svC σ c v m) ∧ (hD σ 8 m).toNat % 2 ^ 63 ≤ 4609434218613702656 ∧ (hI σ 4 m = 10 ∨ hI σ 4 m = 12 → BdF (bgXF (svC σ c v) m)) ∧ (hI σ 4 m = 11 → (1 ≤ nn m ∧ nn m ≤ 16) ∧ SCmp (rndC true (svC σ c v m)) (nn m)))
    (hQ : ∀ P q, P = Pcf σ fr (bgXF (svC σ c v)) nn L N → q = gRd arF P (fun j => bgXF (hD σ 8) (j / 16)) (bgXF (hD σ 8)) r → ∀ τ, Fq [35, 36, 37, 38, 39, 40, 20] σ τ → Cxf τ fr (bgXF (svC σ c v)) nn (fun j => bgXF (hD σ 8) (j / 16)) L N P → Rdf τ q.1 N → Stf τ (bgXF (hD σ 8)) N → (∀ m : Int, 0 ≤ m → m < N → hI τ 40 m = (FP.d2i (svC σ c v m)).toInt) → Lpf τ N → hI τ 20 = lms (hI σ 20) (hI σ 19 1) q.2 ∧ hI τ 19 1 = hI σ 19 1 → Q none τ) : Sp mT_toStart [vR 34, vI c, vD v] σ Q := by
  have hQ1 := hQ _ _ rfl rfl
  clear hQ
  have go : ∀ τ, Fq [36, 37, 38, 40, 39] σ τ → (∀ m : Int, 0 ≤ m → m < N → hD τ 36 m = rndC true (svC σ c v m) ∧ hD τ 37 m = rndC true (hD σ 8 m) ∧ hI τ 40 m = (FP.d2i (svC σ c v m)).toInt ∧ hI τ 39 m = 0 ∧ ∀ j : Int, 0 ≤ j → j < 16 → hD τ 38 (m * 16 + j) = rndC true (hD σ 8 m)) → J mT_toStart 134 [(0, vR 34)] [] τ Q := by
    intro τ F hna
    have e3 := F.I (c := 3) (by decide)
    have e4 := F.I (c := 4) (by decide)
    have e9 := F.I (c := 9) (by decide)
    have e10 := F.I (c := 10) (by decide)
    have e11 := F.I (c := 11) (by decide)
    have e12 := F.D (c := 12) (by decide)
    have e13 := F.D (c := 13) (by decide)
    have e15 := F.I (c := 15) (by decide)
    have e17 := F.I (c := 17) (by decide)
    have eb := F.I (c := 34) (by decide)
    have elm := F.I (c := 20) (by decide)
    have elo := F.I (c := 19) (by decide)
    have er := F.D (c := 35) (by decide)
    have hs : Stf τ (bgXF (hD σ 8)) N := fun m x y => by
      rw [(hna m x y).2.1]; exact ⟨rfl, bgX_bdF (hsv m x y).2.1⟩
    have hx : Cxf τ fr (bgXF (svC σ c v)) nn (fun j => bgXF (hD σ 8) (j / 16)) L N (Pcf σ fr (bgXF (svC σ c v)) nn L N) := by
      refine ⟨?_, ?_, ?_, ?_, ?_, fun m x y => ?_, fun m x y k => ?_⟩
      · unfold Pcf; rw [e4, e10, e11, e12, e13, e3]
      · unfold CtI at hc ⊢; rw [e3, e4, e9, e10]; exact hc
      · rw [eb]; exact hfl
      · unfold PatW at hpw ⊢; rw [e4, e11, e12, e13]; exact hpw
      · unfold OrdC at hord ⊢; rw [e15, e17]; exact hord
      · rw [(hna m x y).1, e4]; exact ⟨rfl, (hsv m x y).2.2.1⟩
      · rw [e4] at k
        obtain ⟨k1, k2⟩ := (hsv m x y).2.2.2 k
        obtain ⟨z1, z2, z3, z4, z5⟩ := hna m x y
        refine ⟨⟨k1, by rw [z4]; omega, fun j j0 j1 => ?_⟩, by rw [z1]; exact k2⟩
        have e : rix (hI τ 39 m) j (nn m) = j := by unfold rix; rw [z4, if_pos (by omega)]; omega
        have e2 : (16 * m + j) / 16 = m := by omega
        rw [e, z5 j j0 (by omega)]
        show _ = cvF (bgXF (hD σ 8) ((16 * m + j) / 16)) ∧ BdF (bgXF (hD σ 8) ((16 * m + j) / 16))
        rw [e2]
        exact ⟨rfl, bgX_bdF (hsv m x y).2.1⟩
    have hrτ : Rdf τ r N := by unfold Rdf at hr ⊢; rw [er]; exact hr
    have hlτ : Lpf τ N := by unfold Lpf at hl ⊢; rw [elm, elo]; exact hl
    obtain ⟨P, hP⟩ : ∃ P, P = Pcf σ fr (bgXF (svC σ c v)) nn L N := ⟨_, rfl⟩
    rw [← hP] at hx hQ1
    obtain ⟨row, hrow⟩ : ∃ row, row = fun j => bgXF (hD σ 8) (j / 16) := ⟨_, rfl⟩
    rw [← hrow] at hx hQ1
    obtain ⟨st, hst⟩ : ∃ st, st = bgXF (hD σ 8) := ⟨_, rfl⟩
    rw [← hst] at hs hQ1
    obtain ⟨se, hse⟩ : ∃ se, se = bgXF (svC σ c v) := ⟨_, rfl⟩
    rw [← hse] at hx hQ1
    obtain ⟨E1, E2, E3, E4, E5, E6, E7, E8⟩ := cxf_E (row := row) (st := st) hx
    have last : ∀ a, (∀ k : Int, 0 ≤ k → k < N → a k = cvF ((gRd arF P row st r).1 k) ∧ BdF ((gRd arF P row st r).1 k)) → (∀ k : Int, (N : Int) ≤ k → a k = hD τ 35 k) → Q none (wI (wD τ 35 a) 20 (lms (hI τ 20) (hI τ 19 1) (gRd arF P row st r).2)) := fun a ha hta => by
      have G : Fq [35, 20] τ (wI (wD τ 35 a) 20 (lms (hI τ 20) (hI τ 19 1) (gRd arF P row st r).2)) := (Fq.rf.wR (by decide) (by exact k20f ha hta)).wI (by decide)
      have gl : hI (wI (wD τ 35 a) 20 (lms (hI τ 20) (hI τ 19 1) (gRd arF P row st r).2)) 20 = lms (hI τ 20) (hI τ 19 1) (gRd arF P row st r).2 := rfl
      have gr : hD (wI (wD τ 35 a) 20 (lms (hI τ 20) (hI τ 19 1) (gRd arF P row st r).2)) 35 = a := rfl
      generalize wI (wD τ 35 a) 20 (lms (hI τ 20) (hI τ 19 1) (gRd arF P row st r).2) = ω at G gl gr ⊢
      refine hQ1 ω ((F.weak (by decide)).trans (G.weak (by decide))) (cxf_mv (G.weak (by decide)) hx) ?_ ?_ (fun m x y => ?_) ⟨fun m x y => ?_, ?_⟩ ⟨?_, ?_⟩
      · unfold Rdf; rw [gr]; exact ha
      · unfold Stf at hs ⊢; rw [G.D (c := 37) (by decide)]; exact hs
      · rw [G.I (c := 40) (by decide)]; exact (hna m x y).2.2.1
      · rw [gl]; exact lms_inR (hlτ.1 m x y) hlτ.2
      · rw [G.I (c := 19) (by decide)]; exact hlτ.2
      · rw [gl, elm, elo]
      · rw [G.I (c := 19) (by decide), elo]
    have eE : Ecf τ fr se row st = pEv P row st := E1.symm
    refine j_aload_n (p2 := 135) dT_toStart_134 rfl rfl ?_
    refine j_callV (m' := mT_readAll) (As := []) (p2 := 138) dT_toStart_135 rfl ml_T_81 ok_mT_readAll im_mT_readAll se_mT_readAll rfl rfl (Nat.le_of_ble_eq_true rfl) ly_34 rfl (Nat.le_of_ble_eq_true rfl) ⟨(Nat.le_of_ble_eq_true rfl), (Nat.le_of_ble_eq_true rfl)⟩ ?_
    refine cTf_readAll (se := se) (row := row) (st := st) (r := r) (L := L) hx.2.1 hx.2.2.1 hrτ (cxf_mo hx hs) hlτ hx.2.2.2.2.1 (fun a ha hta => ?_)
    rw [eE, ← E2] at ha
    rw [eE, ← E2]
    refine j_return dT_toStart_138 rfl (by exact last a ha hta)
  refine j_iconst (p2 := 1) dT_toStart_0 rfl ?_
  refine j_istore (p2 := 3) (lv' := [(0, _), (1, _), (2, _), (4, _)]) dT_toStart_1 rfl (Nat.le_of_ble_eq_true rfl) ⟨rfl, rfl, rfl, rfl, trivial⟩ ?_
  refine J.loc (lv' := [(0, _), (1, _), (2, _), (4, _)]) ⟨rfl, rfl, rfl, rfl, trivial⟩ ?_
  refine tsf_loop ⟨hc.1, hc.2.1⟩ hfl hcr (fun m x y => ⟨(hsv m x y).1, nn_15 (hsv m x y).2.1⟩) (fun a b w d o hna => ?_)
  exact go _ ((((Fq.rf.wD (by decide)).wD (by decide)).wD (by decide)).wI (by decide) |>.wI (by decide)) hna
theorem cTt_toStart {fr : Int → Int} {c : Int} {v : UInt64} {nn : Int → Int} {r : Int → UInt64} {L : List Int} {N : Nat} (hc : CtI σ fr N) (hfl : hI σ 56 3 = 0) (hcr : inR c) (hpw : PatW σ fr N) (hord : OrdC σ L N) (hl : Lpt σ N) (hr : Rdt σ r N) (hsv : ∀ m : Int, 0 ≤ m → m < N → vf_n64 (svC σ c v m) ∧ (hD σ 8 m).toNat % 2 ^ 63 ≤ 4609434218613702656 ∧ (hI σ 4 m = 10 ∨ hI σ 4 m = 12 → BdD (bgXD (svC σ c v) m)) ∧ (hI σ 4 m = 11 → (1 ≤ nn m ∧ nn m ≤ 16) ∧ SCmp (rndC false (svC σ c v m)) (nn m)))
    (hQ : ∀ P q, P = Pct σ fr (bgXD (svC σ c v)) nn L N → q = gRd arD P (fun j => bgXD (hD σ 8) (j / 16)) (bgXD (hD σ 8)) r → ∀ τ, Fq [57, 58, 59, 60, 61, 62, 55] σ τ → Cxt τ fr (bgXD (svC σ c v)) nn (fun j => bgXD (hD σ 8) (j / 16)) L N P → Rdt τ q.1 N → Stt τ (bgXD (hD σ 8)) N → (∀ m : Int, 0 ≤ m → m < N → hI τ 62 m = (FP.d2i (svC σ c v m)).toInt) → Lpt τ N → hI τ 55 = lms (hI σ 55) (hI σ 54 1) q.2 ∧ hI τ 54 1 = hI σ 54 1 → Q none τ) : Sp mT_toStart [vR 56, vI c, vD v] σ Q := by
  have hQ1 := hQ _ _ rfl rfl
  clear hQ
  have go : ∀ τ, Fq [58, 59, 60, 62, 61] σ τ → (∀ m : Int, 0 ≤ m → m < N → hD τ 58 m = rndC false (svC σ c v m) ∧ hD τ 59 m = rndC false (hD σ 8 m) ∧ hI τ 62 m = (FP.d2i (svC σ c v m)).toInt ∧ hI τ 61 m = 0 ∧ ∀ j : Int, 0 ≤ j → j < 16 → hD τ 60 (m * 16 + j) = rndC false (hD σ 8 m)) → J mT_toStart 134 [(0, vR 56)] [] τ Q := by
    intro τ F hna
    have e3 := F.I (c := 3) (by decide)
    have e4 := F.I (c := 4) (by decide)
    have e9 := F.I (c := 9) (by decide)
    have e10 := F.I (c := 10) (by decide)
    have e11 := F.I (c := 11) (by decide)
    have e12 := F.D (c := 12) (by decide)
    have e13 := F.D (c := 13) (by decide)
    have e15 := F.I (c := 15) (by decide)
    have e17 := F.I (c := 17) (by decide)
    have eb := F.I (c := 56) (by decide)
    have elm := F.I (c := 55) (by decide)
    have elo := F.I (c := 54) (by decide)
    have er := F.D (c := 57) (by decide)
    have hs : Stt τ (bgXD (hD σ 8)) N := fun m x y => by
      rw [(hna m x y).2.1]; exact ⟨rfl, bgX_bdD (hsv m x y).2.1⟩
    have hx : Cxt τ fr (bgXD (svC σ c v)) nn (fun j => bgXD (hD σ 8) (j / 16)) L N (Pct σ fr (bgXD (svC σ c v)) nn L N) := by
      refine ⟨?_, ?_, ?_, ?_, ?_, fun m x y => ?_, fun m x y k => ?_⟩
      · unfold Pct; rw [e4, e10, e11, e12, e13, e3]
      · unfold CtI at hc ⊢; rw [e3, e4, e9, e10]; exact hc
      · rw [eb]; exact hfl
      · unfold PatW at hpw ⊢; rw [e4, e11, e12, e13]; exact hpw
      · unfold OrdC at hord ⊢; rw [e15, e17]; exact hord
      · rw [(hna m x y).1, e4]; exact ⟨rfl, (hsv m x y).2.2.1⟩
      · rw [e4] at k
        obtain ⟨k1, k2⟩ := (hsv m x y).2.2.2 k
        obtain ⟨z1, z2, z3, z4, z5⟩ := hna m x y
        refine ⟨⟨k1, by rw [z4]; omega, fun j j0 j1 => ?_⟩, by rw [z1]; exact k2⟩
        have e : rix (hI τ 61 m) j (nn m) = j := by unfold rix; rw [z4, if_pos (by omega)]; omega
        have e2 : (16 * m + j) / 16 = m := by omega
        rw [e, z5 j j0 (by omega)]
        show _ = cvD (bgXD (hD σ 8) ((16 * m + j) / 16)) ∧ BdD (bgXD (hD σ 8) ((16 * m + j) / 16))
        rw [e2]
        exact ⟨rfl, bgX_bdD (hsv m x y).2.1⟩
    have hrτ : Rdt τ r N := by unfold Rdt at hr ⊢; rw [er]; exact hr
    have hlτ : Lpt τ N := by unfold Lpt at hl ⊢; rw [elm, elo]; exact hl
    obtain ⟨P, hP⟩ : ∃ P, P = Pct σ fr (bgXD (svC σ c v)) nn L N := ⟨_, rfl⟩
    rw [← hP] at hx hQ1
    obtain ⟨row, hrow⟩ : ∃ row, row = fun j => bgXD (hD σ 8) (j / 16) := ⟨_, rfl⟩
    rw [← hrow] at hx hQ1
    obtain ⟨st, hst⟩ : ∃ st, st = bgXD (hD σ 8) := ⟨_, rfl⟩
    rw [← hst] at hs hQ1
    obtain ⟨se, hse⟩ : ∃ se, se = bgXD (svC σ c v) := ⟨_, rfl⟩
    rw [← hse] at hx hQ1
    obtain ⟨E1, E2, E3, E4, E5, E6, E7, E8⟩ := cxt_E (row := row) (st := st) hx
    have last : ∀ a, (∀ k : Int, 0 ≤ k → k < N → a k = cvD ((gRd arD P row st r).1 k) ∧ BdD ((gRd arD P row st r).1 k)) → (∀ k : Int, (N : Int) ≤ k → a k = hD τ 57 k) → Q none (wI (wD τ 57 a) 55 (lms (hI τ 55) (hI τ 54 1) (gRd arD P row st r).2)) := fun a ha hta => by
      have G : Fq [57, 55] τ (wI (wD τ 57 a) 55 (lms (hI τ 55) (hI τ 54 1) (gRd arD P row st r).2)) := (Fq.rf.wR (by decide) (by exact k20t ha hta)).wI (by decide)
      have gl : hI (wI (wD τ 57 a) 55 (lms (hI τ 55) (hI τ 54 1) (gRd arD P row st r).2)) 55 = lms (hI τ 55) (hI τ 54 1) (gRd arD P row st r).2 := rfl
      have gr : hD (wI (wD τ 57 a) 55 (lms (hI τ 55) (hI τ 54 1) (gRd arD P row st r).2)) 57 = a := rfl
      generalize wI (wD τ 57 a) 55 (lms (hI τ 55) (hI τ 54 1) (gRd arD P row st r).2) = ω at G gl gr ⊢
      refine hQ1 ω ((F.weak (by decide)).trans (G.weak (by decide))) (cxt_mv (G.weak (by decide)) hx) ?_ ?_ (fun m x y => ?_) ⟨fun m x y => ?_, ?_⟩ ⟨?_, ?_⟩
      · unfold Rdt; rw [gr]; exact ha
      · unfold Stt at hs ⊢; rw [G.D (c := 59) (by decide)]; exact hs
      · rw [G.I (c := 62) (by decide)]; exact (hna m x y).2.2.1
      · rw [gl]; exact lms_inR (hlτ.1 m x y) hlτ.2
      · rw [G.I (c := 54) (by decide)]; exact hlτ.2
      · rw [gl, elm, elo]
      · rw [G.I (c := 54) (by decide), elo]
    have eE : Ect τ fr se row st = pEv P row st := E1.symm
    refine j_aload_n (p2 := 135) dT_toStart_134 rfl rfl ?_
    refine j_callV (m' := mT_readAll) (As := []) (p2 := 138) dT_toStart_135 rfl ml_T_81 ok_mT_readAll im_mT_readAll se_mT_readAll rfl rfl (Nat.le_of_ble_eq_true rfl) ly_56 rfl (Nat.le_of_ble_eq_true rfl) ⟨(Nat.le_of_ble_eq_true rfl), (Nat.le_of_ble_eq_true rfl)⟩ ?_
    refine cTt_readAll (se := se) (row := row) (st := st) (r := r) (L := L) hx.2.1 hx.2.2.1 hrτ (cxt_mo hx hs) hlτ hx.2.2.2.2.1 (fun a ha hta => ?_)
    rw [eE, ← E2] at ha
    rw [eE, ← E2]
    refine j_return dT_toStart_138 rfl (by exact last a ha hta)
  refine j_iconst (p2 := 1) dT_toStart_0 rfl ?_
  refine j_istore (p2 := 3) (lv' := [(0, _), (1, _), (2, _), (4, _)]) dT_toStart_1 rfl (Nat.le_of_ble_eq_true rfl) ⟨rfl, rfl, rfl, rfl, trivial⟩ ?_
  refine J.loc (lv' := [(0, _), (1, _), (2, _), (4, _)]) ⟨rfl, rfl, rfl, rfl, trivial⟩ ?_
  refine tst_loop ⟨hc.1, hc.2.1⟩ hfl hcr (fun m x y => ⟨(hsv m x y).1, nn_15 (hsv m x y).2.1⟩) (fun a b w d o hna => ?_)
  exact go _ ((((Fq.rf.wD (by decide)).wD (by decide)).wD (by decide)).wI (by decide) |>.wI (by decide)) hna
end TWC14
