/-! ===== the panel: to the start, all ===== -/
/-- the twin of floats at the start -/
def gT0F (b : Int → UInt64) (s : Int → UInt64) (P : Pt UInt32) (r : Int → UInt32) : Ts UInt32 := ((gRd arF P (fun j => bgXF b (j / 16)) (bgXF b) r).1, bgXF b, (fun j => bgXF b (j / 16)), fun m => (FP.d2i (s m)).toInt)
section PAN5
variable {σ τ : Hp} {Q : Option PV → Hp → Prop} {N S : Nat}
theorem svC_fr {c : Int} {v : UInt64} {W : List Nat} (F : Fq W σ τ) (h : 6 ∉ W) : svC τ c v = svC σ c v := by funext x; unfold svC; rw [F.D h]
theorem PatW.frm {fr : Int → Int} {W : List Nat} (h : PatW σ fr N) (F : Fq W σ τ) (hS : 4 ∉ W ∧ 11 ∉ W ∧ 12 ∉ W ∧ 13 ∉ W) : PatW τ fr N := by
  unfold PatW at *
  rw [F.I hS.1, F.I hS.2.1, F.D hS.2.2.1, F.D hS.2.2.2]
  exact h
theorem OrdC.frm {L : List Int} {W : List Nat} (h : OrdC σ L N) (F : Fq W σ τ) (hS : 15 ∉ W ∧ 17 ∉ W) : OrdC τ L N := by
  unfold OrdC at *
  rw [F.I hS.1, F.I hS.2]
  exact h
theorem Pcd_fr {fr : Int → Int} {se : Int → UInt64} {nn : Int → Int} {L : List Int} {W : List Nat} (F : Fq W σ τ) (hS : 3 ∉ W ∧ 4 ∉ W ∧ 10 ∉ W ∧ 11 ∉ W ∧ 12 ∉ W ∧ 13 ∉ W) : Pcd τ fr se nn L N = Pcd σ fr se nn L N := by
  unfold Pcd
  rw [F.I hS.1, F.I hS.2.1, F.I hS.2.2.1, F.I hS.2.2.2.1, F.D hS.2.2.2.2.1, F.D hS.2.2.2.2.2]
theorem Pcf_fr {fr : Int → Int} {se : Int → UInt32} {nn : Int → Int} {L : List Int} {W : List Nat} (F : Fq W σ τ) (hS : 3 ∉ W ∧ 4 ∉ W ∧ 10 ∉ W ∧ 11 ∉ W ∧ 12 ∉ W ∧ 13 ∉ W) : Pcf τ fr se nn L N = Pcf σ fr se nn L N := by
  unfold Pcf
  rw [F.I hS.1, F.I hS.2.1, F.I hS.2.2.1, F.I hS.2.2.2.1, F.D hS.2.2.2.2.1, F.D hS.2.2.2.2.2]
abbrev HsD (σ : Hp) (nn : Int → Int) (N : Nat) : Prop := ∀ m : Int, 0 ≤ m → m < N → vf_n64 (svC σ (-1) FP.dconst0 m) ∧ (hD σ 8 m).toNat % 2 ^ 63 ≤ 4609434218613702656 ∧ (hI σ 4 m = 10 ∨ hI σ 4 m = 12 → BdD (bgXD (svC σ (-1) FP.dconst0) m)) ∧ (hI σ 4 m = 11 → (1 ≤ nn m ∧ nn m ≤ 16) ∧ SCmp (rndC false (svC σ (-1) FP.dconst0 m)) (nn m))
abbrev HsF (σ : Hp) (nn : Int → Int) (N : Nat) : Prop := ∀ m : Int, 0 ≤ m → m < N → vf_n64 (svC σ (-1) FP.dconst0 m) ∧ (hD σ 8 m).toNat % 2 ^ 63 ≤ 4609434218613702656 ∧ (hI σ 4 m = 10 ∨ hI σ 4 m = 12 → BdF (bgXF (svC σ (-1) FP.dconst0) m)) ∧ (hI σ 4 m = 11 → (1 ≤ nn m ∧ nn m ≤ 16) ∧ SCmp (rndC true (svC σ (-1) FP.dconst0 m)) (nn m))
theorem HsD.frm {nn : Int → Int} {W : List Nat} (h : HsD σ nn N) (F : Fq W σ τ) (hS : 4 ∉ W ∧ 6 ∉ W ∧ 8 ∉ W) : HsD τ nn N := by
  unfold HsD at *
  rw [F.I hS.1, svC_fr F hS.2.1, F.D hS.2.2]
  exact h
theorem HsF.frm {nn : Int → Int} {W : List Nat} (h : HsF σ nn N) (F : Fq W σ τ) (hS : 4 ∉ W ∧ 6 ∉ W ∧ 8 ∉ W) : HsF τ nn N := by
  unfold HsF at *
  rw [F.I hS.1, svC_fr F hS.2.1, F.D hS.2.2]
  exact h
/-- the rows behind the start -/
abbrev StO (σ τ : Hp) (fr : Int → Int) (TD : Ts UInt64) (TF : Ts UInt32) (lb : Int → Bool) (N S : Nat) : Prop :=
  hI τ 20 = lms (pw (hI σ 20) (fun _ => -1) 20) 0 lb ∧ hI τ 0 = fup (hI σ 0) 10 0 ∧ hI τ 19 = fup (hI σ 19) 1 0 ∧ hD τ 2 = pw (pw (hD σ 2) (fun _ => FP.dconst0) N) (fun m => gdf (TD.1 m) (TF.1 m) (pw (hD σ 2) (fun _ => FP.dconst0) N m)) N ∧ hL τ 1 = pw (hL σ 1) (raG (hI σ 4) fr (hI σ 10) TD.1) N ∧
  (∃ rr : Int → UInt64, (∀ m : Int, 0 ≤ m → m < N → rr m = TD.1 m) ∧ hL τ 50 = pw (hL σ 50) (tkS (pw (hI σ 49) (fun _ => 0) S) (hI σ 48) (fun k => (rr k).toInt64) (hL σ 50)) (120 * S)) ∧ hI τ 49 = pw (pw (hI σ 49) (fun _ => 0) S) (fun s => pw (hI σ 49) (fun _ => 0) S s + 1) S
/-- from strips on -/
theorem ts_strips {fr : Int → Int} {seD : Int → UInt64} {seF : Int → UInt32} {nn : Int → Int} {L : List Int} {PD : Pt UInt64} {PF : Pt UInt32} {TD : Ts UInt64} {TF : Ts UInt32} {lb : Int → Bool} (hT : Tws τ fr seD seF nn L N PD PF TD TF) (hz : ∀ k : Int, 0 ≤ k → k < N → TD.1 k ≠ 9223372036854775808) (F : Fq ([0, 19, 23, 36] ++ TwC) σ τ) (hS : hI σ 47 0 = S ∧ S ≤ 6) (hs : ∀ s : Int, 0 ≤ s → s < S → 0 ≤ hI σ 48 s ∧ hI σ 48 s < N) (h20 : hI τ 20 = lms (pw (hI σ 20) (fun _ => -1) 20) 0 lb) (h0 : hI τ 0 = fup (hI σ 0) 10 0) (h19 : hI τ 19 = fup (hI σ 19) 1 0)
    (hQ : ∀ ν, Fq ([0, 1, 2, 19, 23, 36, 49, 50] ++ TwC) σ ν → Tws ν fr seD seF nn L N PD PF TD TF → StO σ ν fr TD TF lb N S → Q none ν) : J mX_toStart 30 [(0, vR 0)] [] τ Q := by
  have e47 := F.I (c := 47) (by decide)
  have e48 := F.I (c := 48) (by decide)
  have e49 := F.I (c := 49) (by decide)
  have e50 := F.L (c := 50) (by decide)
  have e2 := F.D (c := 2) (by decide)
  have e1 := F.L (c := 1) (by decide)
  have e4 := F.I (c := 4) (by decide)
  have e10 := F.I (c := 10) (by decide)
  have hN2 := hT.1.1.2.1.2.1
  have F1 : Fq [49] τ (scH τ S) := Fq.rf.wI (by decide)
  obtain ⟨τ1, hτ1⟩ : ∃ τ1, τ1 = scH τ S := ⟨_, rfl⟩
  have g49 : hI τ1 49 = pw (hI σ 49) (fun _ => 0) S := by rw [hτ1, ← e49]; rfl
  rw [← hτ1] at F1
  have hT1 := tws_fr hT F1 (by decide)
  have F2 : Fq [49, 50] τ1 (stH τ1 S) := (Fq.rf.wL (by decide)).wI (by decide)
  have r50 : hL (stH τ1 S) 50 = pw (hL τ1 50) (tkS (hI τ1 49) (hI τ1 48) (fun k => (hD τ1 22 k).toInt64) (hL τ1 50)) (120 * S) := rfl
  have r49 : hI (stH τ1 S) 49 = pw (hI τ1 49) (fun s => hI τ1 49 s + 1) S := rfl
  have go2 : J mX_toStart 51 [(0, vR 0)] [] (stH τ1 S) Q := by
    obtain ⟨τ2, hτ2⟩ : ∃ τ2, τ2 = stH τ1 S := ⟨_, rfl⟩
    rw [← hτ2] at F2 r50 r49 ⊢
    have hT2 := tws_fr hT1 F2 (by decide)
    refine ts_rates hT2.1.1.2.1 hT2.1.1.2.2.1 hT2.1.2.1 hT2.2.1.2.1 hz (fun G hG => ?_)
    have F3 : Fq [1, 2] τ2 (raC τ2 G N) := (Fq.rf.wD (by decide)).wL (by decide)
    have F4 : Fq [2] (raC τ2 G N) (naH (raC τ2 G N) TD.1 TF.1 N) := Fq.rf.wD (by decide)
    have hT4 := tws_fr (tws_fr hT2 F3 (by decide)) F4 (by decide)
    have F5 : Fq [1, 2, 49, 50] τ (naH (raC τ2 G N) TD.1 TF.1 N) := (((F1.weak (by decide)).trans (F2.weak (by decide))).trans (F3.weak (by decide))).trans (F4.weak (by decide))
    refine hQ _ ((F.weak (by decide)).trans (F5.weak (by decide))) hT4 ⟨?_, ?_, ?_, ?_, ?_, ⟨hD τ1 22, fun m x y => (hT1.1.2.1 m x y).1, ?_⟩, ?_⟩
    · rw [F5.I (by decide)]; exact h20
    · rw [F5.I (by decide)]; exact h0
    · rw [F5.I (by decide)]; exact h19
    · have e : hD τ2 2 = hD σ 2 := by rw [F2.D (by decide), F1.D (by decide), e2]
      show pw (pw (hD τ2 2) (fun _ => FP.dconst0) N) (fun m => gdf (TD.1 m) (TF.1 m) (pw (hD τ2 2) (fun _ => FP.dconst0) N m)) N = _
      rw [e]
    · rw [F4.L (by decide)]
      show pw (hL τ2 1) G N = _
      rw [F2.L (by decide), F1.L (by decide), e1, hG, F2.I (by decide), F1.I (by decide), e4, F2.I (by decide), F1.I (by decide), e10]
    · rw [F4.L (by decide), F3.L (by decide), r50, g49, F1.L (by decide), e50, F1.I (by decide), e48]
    · rw [F4.I (by decide), F3.I (by decide), r49, g49]
  have go : J mX_toStart 37 [(0, vR 0)] [] τ1 Q := by
    refine j_aload_n (p2 := 38) dX_toStart_37 rfl rfl ?_
    refine j_getR (p2 := 41) dX_toStart_38 rfl fa_X_47 ly_0 rfl ?_
    refine j_aload_n (p2 := 42) dX_toStart_41 rfl rfl ?_
    refine j_getR (p2 := 45) dX_toStart_42 rfl fa_X_37 ly_0 rfl ?_
    refine j_getR (p2 := 48) dX_toStart_45 rfl fa_X_182 ly_21 rfl ?_
    refine j_callV (m' := mS_take) (As := [_]) (p2 := 51) dX_toStart_48 rfl ml_X_205 ok_mS_take im_mS_take se_mS_take rfl rfl (Nat.le_of_ble_eq_true rfl) ly_47 rfl (Nat.le_of_ble_eq_true rfl) ⟨(Nat.le_of_ble_eq_true rfl), (Nat.le_of_ble_eq_true rfl)⟩ ?_
    refine cS_take (N := S) ⟨by rw [F1.I (by decide), e47]; exact hS.1, hS.2⟩ (fun s x y => ?_) ?_
    · rw [F1.I (c := 48) (by decide), e48, g49]
      have h1 := hs s x y
      have h2 := hT1.1.2.1 _ h1.1 h1.2
      refine ⟨by rw [pw_lo x y]; decide, by omega, ?_, ?_⟩
      · rw [h2.1]; exact Nat.lt_of_lt_of_le h2.2 (by decide)
      · rw [h2.1]; exact fun q => hz _ h1.1 h1.2 (UInt64.toNat_inj.mp q)
    refine J.loc (lv' := [(0, _)]) ⟨rfl, trivial⟩ ?_
    exact go2
  rw [hτ1] at go
  refine j_aload_n (p2 := 31) dX_toStart_30 rfl rfl ?_
  refine j_getR (p2 := 34) dX_toStart_31 rfl fa_X_47 ly_0 rfl ?_
  refine j_callV (m' := mS_clear) (As := []) (p2 := 37) dX_toStart_34 rfl ml_X_202 ok_mS_clear im_mS_clear se_mS_clear rfl rfl (Nat.le_of_ble_eq_true rfl) ly_47 rfl (Nat.le_of_ble_eq_true rfl) ⟨(Nat.le_of_ble_eq_true rfl), (Nat.le_of_ble_eq_true rfl)⟩ ?_
  refine cS_clear (N := S) ⟨by rw [e47]; exact hS.1, hS.2⟩ ?_
  refine J.loc (lv' := [(0, _)]) ⟨rfl, trivial⟩ ?_
  exact go
theorem cX_toStart {fr : Int → Int} {nn : Int → Int} {L : List Int} {rD : Int → UInt64} {rF : Int → UInt32} (hc : CtI σ fr N) (f1 : hI σ 21 3 = 0) (f2 : hI σ 34 3 = 1) (hpw : PatW σ fr N) (hord : OrdC σ L N) (hrD : Rdd σ rD N) (hrF : Rdf σ rF N) (hsD : HsD σ nn N) (hsF : HsF σ nn N) (hS : hI σ 47 0 = S ∧ S ≤ 6) (hs : ∀ s : Int, 0 ≤ s → s < S → 0 ≤ hI σ 48 s ∧ hI σ 48 s < N) (hLm : ∀ m : Int, 0 ≤ m → m < N → m ∈ L)
    (hQ : ∀ PD PF TD TF lb, PD = Pcd σ fr (svC σ (-1) FP.dconst0) nn L N → PF = Pcf σ fr (bgXF (svC σ (-1) FP.dconst0)) nn L N → TD = gT0 (hD σ 8) (svC σ (-1) FP.dconst0) PD rD → TF = gT0F (hD σ 8) (svC σ (-1) FP.dconst0) PF rF → lb = (fun m => (gRd arD PD (fun j => hD σ 8 (j / 16)) (hD σ 8) rD).2 m || (gRd arF PF (fun j => bgXF (hD σ 8) (j / 16)) (bgXF (hD σ 8)) rF).2 m) →
      ∀ ν, Fq ([0, 1, 2, 19, 23, 36, 49, 50] ++ TwC) σ ν → Tws ν fr (svC σ (-1) FP.dconst0) (bgXF (svC σ (-1) FP.dconst0)) nn L N PD PF TD TF → StO σ ν fr TD TF lb N S → Q none ν) : Sp mX_toStart [vR 0] σ Q := by
  have hN2 := hc.2.1
  obtain ⟨PD, hPD⟩ : ∃ PD, PD = Pcd σ fr (svC σ (-1) FP.dconst0) nn L N := ⟨_, rfl⟩
  obtain ⟨PF, hPF⟩ : ∃ PF, PF = Pcf σ fr (bgXF (svC σ (-1) FP.dconst0)) nn L N := ⟨_, rfl⟩
  have hQ := hQ PD PF _ _ _ hPD hPF rfl rfl rfl
  obtain ⟨σ1, hσ1⟩ : ∃ σ1, σ1 = wI σ 0 (fup (hI σ 0) 10 0) := ⟨_, rfl⟩
  have G1 : Fq [0] σ σ1 := by rw [hσ1]; exact Fq.rf.wI (by decide)
  have g0 : hI σ1 0 = fup (hI σ 0) 10 0 := by rw [hσ1]; rfl
  have go : J mX_toStart 5 [(0, vR 0)] [] σ1 Q := by
    obtain ⟨σ2, hσ2⟩ : ∃ σ2, σ2 = wI (wI σ1 19 (fup (hI σ1 19) 1 0)) 20 (pw (hI σ1 20) (fun _ => -1) 20) := ⟨_, rfl⟩
    have G2 : Fq [19, 20] σ1 σ2 := by rw [hσ2]; exact (Fq.rf.wI (by decide)).wI (by decide)
    have h20 : hI σ2 20 = pw (hI σ 20) (fun _ => -1) 20 := by rw [hσ2, ← G1.I (c := 20) (by decide)]; rfl
    have h19 : hI σ2 19 = fup (hI σ 19) 1 0 := by rw [hσ2, ← G1.I (c := 19) (by decide)]; rfl
    have h191 : hI σ2 19 1 = 0 := by rw [h19, fup_s]
    have G : Fq [0, 19, 20] σ σ2 := (G1.weak (by decide)).trans (G2.weak (by decide))
    have lp : Lpd σ2 N := ⟨fun m x y => by rw [h20, pw_lo x (by omega)]; constructor <;> decide, by rw [h191]; constructor <;> decide⟩
    have next : J mX_toStart 12 [(0, vR 0)] [] σ2 Q := by
      refine j_aload_n (p2 := 13) dX_toStart_12 rfl rfl ?_
      refine j_getR (p2 := 16) dX_toStart_13 rfl fa_X_37 ly_0 rfl ?_
      refine j_iconst (p2 := 17) dX_toStart_16 rfl ?_
      refine j_dconst0 (p2 := 18) dX_toStart_17 rfl ?_
      refine j_callV (m' := mT_toStart) (As := [_, _]) (p2 := 21) dX_toStart_18 rfl ml_X_199 ok_mT_toStart im_mT_toStart se_mT_toStart rfl rfl (Nat.le_of_ble_eq_true rfl) ly_21 rfl (Nat.le_of_ble_eq_true rfl) ⟨(Nat.le_of_ble_eq_true rfl), (Nat.le_of_ble_eq_true rfl)⟩ ?_
      refine cTd_toStart (nn := nn) (hc.frm G (by decide)) (by rw [G.I (by decide)]; exact f1) (by constructor <;> decide) (hpw.frm G (by decide)) (hord.frm G (by decide)) lp (Rdd_fr hrD G (by decide)) (hsD.frm G (by decide)) (fun P q hP hq τ F d1 d2 d3 d4 d5 d6 => ?_)
      rw [svC_fr G (by decide), Pcd_fr G (by decide)] at hP
      replace hP : P = PD := hP.trans hPD.symm
      subst hP
      rw [svC_fr G (by decide), G.D (by decide)] at d1
      rw [G.D (by decide)] at d3 hq
      rw [svC_fr G (by decide)] at d4
      have GF : Fq [0, 19, 20, 22, 23, 24, 25, 26, 27] σ τ := (G.weak (by decide)).trans (F.weak (by decide))
      rw [hq] at d2 d6
      refine j_aload_n (p2 := 22) dX_toStart_21 rfl rfl ?_
      refine j_getR (p2 := 25) dX_toStart_22 rfl fa_X_41 ly_0 rfl ?_
      refine j_iconst (p2 := 26) dX_toStart_25 rfl ?_
      refine j_dconst0 (p2 := 27) dX_toStart_26 rfl ?_
      refine j_callV (m' := mT_toStart) (As := [_, _]) (p2 := 30) dX_toStart_27 rfl ml_X_199 ok_mT_toStart im_mT_toStart se_mT_toStart rfl rfl (Nat.le_of_ble_eq_true rfl) ly_34 rfl (Nat.le_of_ble_eq_true rfl) ⟨(Nat.le_of_ble_eq_true rfl), (Nat.le_of_ble_eq_true rfl)⟩ ?_
      refine cTf_toStart (nn := nn) (hc.frm GF (by decide)) (by rw [GF.I (by decide)]; exact f2) (by constructor <;> decide) (hpw.frm GF (by decide)) (hord.frm GF (by decide)) d5 (Rdf_fr hrF GF (by decide)) (hsF.frm GF (by decide)) (fun P2 q2 hP2 hq2 τ2 F2 k1 k2 k3 k4 k5 k6 => ?_)
      rw [svC_fr GF (by decide), Pcf_fr GF (by decide)] at hP2
      replace hP2 : P2 = PF := hP2.trans hPF.symm
      subst hP2
      rw [svC_fr GF (by decide), GF.D (by decide)] at k1
      rw [GF.D (by decide)] at k3 hq2
      rw [svC_fr GF (by decide)] at k4
      rw [hq2] at k2 k6
      refine J.loc (lv' := [(0, _)]) ⟨rfl, trivial⟩ ?_
      refine ts_strips (σ := σ) ⟨⟨Cxd_fr d1 F2 (by decide), Rdd_fr d2 F2 (by decide), Std_fr d3 F2 (by decide), fun m x y z => by rw [F2.I (by decide)]; exact d4 m x y⟩, ⟨k1, k2, k3, fun m x y z => k4 m x y⟩, k5⟩ (fun k x y => gRd_nzD (by rw [hPD]; exact hLm k x y)) ((GF.weak (by decide)).trans (F2.weak (by decide))) hS hs ?_ ?_ ?_ hQ
      · rw [k6.1, d6.2, d6.1, h191, h20, lms_lms]; rfl
      · rw [F2.I (by decide), F.I (by decide), G2.I (by decide)]; exact g0
      · rw [F2.I (by decide), F.I (by decide)]; exact h19
    rw [hσ2] at next
    refine j_aload_n (p2 := 6) dX_toStart_5 rfl rfl ?_
    refine j_getR (p2 := 9) dX_toStart_6 rfl fa_X_28 ly_0 rfl ?_
    refine j_callV (m' := mL_putOut) (As := []) (p2 := 12) dX_toStart_9 rfl ml_X_196 ok_mL_putOut im_mL_putOut se_mL_putOut rfl rfl (Nat.le_of_ble_eq_true rfl) ly_19 rfl (Nat.le_of_ble_eq_true rfl) ⟨(Nat.le_of_ble_eq_true rfl), (Nat.le_of_ble_eq_true rfl)⟩ ?_
    refine cL_putOut ?_
    refine J.loc (lv' := [(0, _)]) ⟨rfl, trivial⟩ ?_
    exact next
  rw [hσ1] at go
  refine j_aload_n (p2 := 1) dX_toStart_0 rfl rfl ?_
  refine j_iconst (p2 := 2) dX_toStart_1 rfl ?_
  refine j_putIk (p2 := 5) dX_toStart_2 rfl fw_X_164 ly_0 rfl (ki := 10) rfl ?_
  refine J.loc (lv' := [(0, _)]) ⟨rfl, trivial⟩ ?_
  exact go
end PAN5
