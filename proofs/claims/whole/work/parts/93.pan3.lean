/-! ===== the panel: a step ===== -/
/-- both twins of the class -/
abbrev Tws (σ : Hp) (fr : Int → Int) (seD : Int → UInt64) (seF : Int → UInt32) (nn : Int → Int) (L : List Int) (N : Nat) (PD : Pt UInt64) (PF : Pt UInt32) (TD : Ts UInt64) (TF : Ts UInt32) : Prop :=
  (Cxd σ fr seD nn TD.2.2.1 L N PD ∧ Rdd σ TD.1 N ∧ Std σ TD.2.1 N ∧ Sdd σ TD.2.2.2 N) ∧ (Cxf σ fr seF nn TF.2.2.1 L N PF ∧ Rdf σ TF.1 N ∧ Stf σ TF.2.1 N ∧ Sdf σ TF.2.2.2 N) ∧ Lpd σ N
/-- cells of both twins, and the lamps -/
abbrev TwC : List Nat := [22, 24, 25, 26, 27, 28, 29, 30, 31, 32, 33, 35, 37, 38, 39, 40, 41, 42, 43, 44, 45, 46, 20]
theorem tws_fr {σ τ : Hp} {S : List Nat} {fr : Int → Int} {seD : Int → UInt64} {seF : Int → UInt32} {nn : Int → Int} {L : List Int} {N : Nat} {PD : Pt UInt64} {PF : Pt UInt32} {TD : Ts UInt64} {TF : Ts UInt32} (h : Tws σ fr seD seF nn L N PD PF TD TF) (F : Fq S σ τ) (hS : ∀ c ∈ S, c ∈ [0, 1, 2, 49, 50]) : Tws τ fr seD seF nn L N PD PF TD TF := by
  have no : ∀ c, c ∉ [0, 1, 2, 49, 50] → c ∉ S := fun c h q => h (hS c q)
  obtain ⟨⟨a1, a2, a3, a4⟩, ⟨b1, b2, b3, b4⟩, c⟩ := h
  refine ⟨⟨Cxd_fr a1 F ?_, Rdd_fr a2 F (no _ (by decide)), Std_fr a3 F (no _ (by decide)), Sdd_fr a4 F ⟨no _ (by decide), no _ (by decide)⟩⟩, ⟨Cxf_fr b1 F ?_, Rdf_fr b2 F (no _ (by decide)), Stf_fr b3 F (no _ (by decide)), Sdf_fr b4 F ⟨no _ (by decide), no _ (by decide)⟩⟩, Lpd_fr c F ⟨no _ (by decide), no _ (by decide)⟩⟩
  all_goals refine ⟨?_, ?_, ?_, ?_, ?_, ?_, ?_, ?_, ?_, ?_, ?_, ?_, ?_⟩ <;> exact no _ (by decide)
theorem mhF_all : ∀ k : Nat, k < 31 → (FP.d2f (lenD k)).toNat % 2 ^ 31 < 129 * 2 ^ 23 := by decide +kernel
theorem mhF_len {k : Nat} (h : k < 31) : MhF (FP.d2f (lenD k)) := mhF_all k h
section PAN3
variable {σ : Hp} {Q : Option PV → Hp → Prop} {N S : Nat}
theorem cX_doStep {fr : Int → Int} {seD : Int → UInt64} {seF : Int → UInt32} {nn : Int → Int} {L : List Int} {PD : Pt UInt64} {PF : Pt UInt32} {TD : Ts UInt64} {TF : Ts UInt32} {k : Nat} (hT : Tws σ fr seD seF nn L N PD PF TD TF) (hk : hI σ 3 2 = k ∧ 0 < k ∧ k ≤ 28) (hru : 0 ≤ hI σ 3 1 ∧ hI σ 3 1 ≤ 2) (ht : 0 ≤ hI σ 0 10 ∧ hI σ 0 10 ≤ 299) (hS : hI σ 47 0 = S ∧ S ≤ 6) (hs : ∀ s : Int, 0 ≤ s → s < S → (0 ≤ hI σ 49 s ∧ hI σ 49 s < 120) ∧ (0 ≤ hI σ 48 s ∧ hI σ 48 s < N)) (hLm : ∀ m : Int, 0 ≤ m → m < N → m ∈ pOr PD)
    (hQ : ∀ gD gF, gD = gstep arD zcD PD (lenD k) (lenD (k + 1)) TD → gF = gstep arF zcF PF (FP.d2f (lenD k)) (FP.d2f (lenD (k + 1))) TF → ∀ τ, Fq ([0, 2, 19, 49, 50] ++ TwC) σ τ → Tws τ fr seD seF nn L N PD PF gD.1 gF.1 →
      hI τ 20 = lms (hI σ 20) (hI σ 0 10 + 1) (fun m => gD.2 m || gF.2 m) → hI τ 0 = fup (fup (hI σ 0) 10 (hI σ 0 10 + 1)) 12 (hI σ 0 12 + 1) → hI τ 19 = fup (hI σ 19) 1 (hI σ 0 10 + 1) → hD τ 2 = pw (hD σ 2) (fun m => gdf (gD.1.1 m) (gF.1.1 m) (hD σ 2 m)) N →
      (∃ rr : Int → UInt64, (∀ m : Int, 0 ≤ m → m < N → rr m = gD.1.1 m) ∧ hL τ 50 = pw (hL σ 50) (tkS (hI σ 49) (hI σ 48) (fun k => (rr k).toInt64) (hL σ 50)) (120 * S)) → hI τ 49 = pw (hI σ 49) (fun s => hI σ 49 s + 1) S → Q none τ) : Sp mX_doStep [vR 0] σ Q := by
  obtain ⟨σ1, hσ1⟩ : ∃ σ1, σ1 = wI σ 19 (fup (hI σ 19) 1 (hI σ 0 10 + 1)) := ⟨_, rfl⟩
  have F1 : Fq [19] σ σ1 := by rw [hσ1]; exact Fq.rf.wI (by decide)
  have e19 : hI σ1 19 = fup (hI σ 19) 1 (hI σ 0 10 + 1) := by rw [hσ1]; rfl
  have e191 : hI σ1 19 1 = hI σ 0 10 + 1 := by rw [e19, fup_s]
  obtain ⟨⟨a1, a2, a3, a4⟩, ⟨b1, b2, b3, b4⟩, c⟩ := hT
  have a1 := Cxd_fr a1 F1 (by decide)
  have a2 := Rdd_fr a2 F1 (by decide)
  have a3 := Std_fr a3 F1 (by decide)
  have a4 := Sdd_fr a4 F1 (by decide)
  have b1 := Cxf_fr b1 F1 (by decide)
  have b2 := Rdf_fr b2 F1 (by decide)
  have b3 := Stf_fr b3 F1 (by decide)
  have b4 := Sdf_fr b4 F1 (by decide)
  have c1 : Lpd σ1 N := ⟨by rw [F1.I (by decide)]; exact c.1, by rw [e191]; constructor <;> omega⟩
  have hru1 : 0 ≤ hI σ1 3 1 ∧ hI σ1 3 1 ≤ 2 := by rw [F1.I (by decide)]; exact hru
  have hN2 := a1.2.1.2.1
  have go : J mX_doStep 13 [(0, vR 0)] [] σ1 Q := by
    have ek : hI σ1 3 2 = k := by rw [F1.I (by decide)]; exact hk.1
    obtain ⟨gD, hgD⟩ : ∃ gD, gD = gstep arD zcD PD (lenD k) (lenD (k + 1)) TD := ⟨_, rfl⟩
    obtain ⟨gF, hgF⟩ : ∃ gF, gF = gstep arF zcF PF (FP.d2f (lenD k)) (FP.d2f (lenD (k + 1))) TF := ⟨_, rfl⟩
    have hq := hQ gD gF hgD hgF
    have hh1 : MhF (FP.d2f (lenD k)) := mhF_len (by omega)
    have hh2 : MhF (FP.d2f (lenD (k + 1))) := mhF_len (by omega)
    have nz : ∀ m : Int, 0 ≤ m → m < N → gD.1.1 m ≠ 9223372036854775808 := fun m x y => by rw [hgD]; exact gstep_nzD (hLm m x y)
    have last : ∀ τ, Fq TwC σ1 τ → Tws τ fr seD seF nn L N PD PF gD.1 gF.1 → hI τ 20 = lms (hI σ 20) (hI σ 0 10 + 1) (fun m => gD.2 m || gF.2 m) → J mX_doStep 40 [(0, vR 0)] [] τ Q := by
      intro τ F hT2 h20
      obtain ⟨τ1, hτ1⟩ : ∃ τ1, τ1 = wI (wI τ 0 (fup (hI τ 0) 10 (hI τ 0 10 + 1))) 0 (fup (hI (wI τ 0 (fup (hI τ 0) 10 (hI τ 0 10 + 1))) 0) 12 (hI (wI τ 0 (fup (hI τ 0) 10 (hI τ 0 10 + 1))) 0 12 + 1)) := ⟨_, rfl⟩
      have F3 : Fq [0] τ τ1 := by rw [hτ1]; exact (Fq.rf.wI (by decide)).wI (by decide)
      have e0 : hI τ 0 = hI σ 0 := by rw [F.I (by decide), F1.I (by decide)]
      have e01 : hI τ1 0 = fup (fup (hI σ 0) 10 (hI σ 0 10 + 1)) 12 (hI σ 0 12 + 1) := by
        rw [hτ1]
        show fup (fup (hI τ 0) 10 (hI τ 0 10 + 1)) 12 (fup (hI τ 0) 10 (hI τ 0 10 + 1) 12 + 1) = _
        rw [e0, fup_n (by decide)]
      have hT3 := tws_fr hT2 F3 (by decide)
      have e47 : hI τ1 47 = hI σ 47 := by rw [F3.I (by decide), F.I (by decide), F1.I (by decide)]
      have e48 : hI τ1 48 = hI σ 48 := by rw [F3.I (by decide), F.I (by decide), F1.I (by decide)]
      have e49 : hI τ1 49 = hI σ 49 := by rw [F3.I (by decide), F.I (by decide), F1.I (by decide)]
      have e50 : hL τ1 50 = hL σ 50 := by rw [F3.L (by decide), F.L (by decide), F1.L (by decide)]
      have e2 : hD τ1 2 = hD σ 2 := by rw [F3.D (by decide), F.D (by decide), F1.D (by decide)]
      have F4 : Fq ([0, 2, 19, 49, 50] ++ TwC) σ τ1 := ((F1.weak (by decide)).trans (F.weak (by decide))).trans (F3.weak (by decide))
      have go2 : J mX_doStep 60 [(0, vR 0)] [] τ1 Q := by
        have hr22 := hT3.1.2.1
        have F5 : Fq [49, 50] τ1 (stH τ1 S) := (Fq.rf.wL (by decide)).wI (by decide)
        have hT5 := tws_fr hT3 F5 (by decide)
        have F6 : Fq [2] (stH τ1 S) (naH (stH τ1 S) gD.1.1 gF.1.1 N) := Fq.rf.wD (by decide)
        have hT6 := tws_fr hT5 F6 (by decide)
        have fin := hq (naH (stH τ1 S) gD.1.1 gF.1.1 N) ((F4.trans (F5.weak (by decide))).trans (F6.weak (by decide))) hT6
          (by rw [F6.I (by decide), F5.I (by decide), F3.I (by decide)]; exact h20) (by rw [F6.I (by decide), F5.I (by decide)]; exact e01)
          (by rw [F6.I (by decide), F5.I (by decide), F3.I (by decide), F.I (by decide)]; exact e19)
          (by show pw (hD τ1 2) (fun m => gdf (gD.1.1 m) (gF.1.1 m) (hD τ1 2 m)) N = _; rw [e2])
          ⟨hD τ1 22, fun m x y => (hr22 m x y).1, by show pw (hL τ1 50) (tkS (hI τ1 49) (hI τ1 48) (fun k => (hD τ1 22 k).toInt64) (hL τ1 50)) (120 * S) = _; rw [e50, e49, e48]⟩
          (by show pw (hI τ1 49) (fun s => hI τ1 49 s + 1) S = _; rw [e49])
        refine j_aload_n (p2 := 61) dX_doStep_60 rfl rfl ?_
        refine j_getR (p2 := 64) dX_doStep_61 rfl fa_X_47 ly_0 rfl ?_
        refine j_aload_n (p2 := 65) dX_doStep_64 rfl rfl ?_
        refine j_getR (p2 := 68) dX_doStep_65 rfl fa_X_37 ly_0 rfl ?_
        refine j_getR (p2 := 71) dX_doStep_68 rfl fa_X_182 ly_21 rfl ?_
        refine j_callV (m' := mS_take) (As := [_]) (p2 := 74) dX_doStep_71 rfl ml_X_205 ok_mS_take im_mS_take se_mS_take rfl rfl (Nat.le_of_ble_eq_true rfl) ly_47 rfl (Nat.le_of_ble_eq_true rfl) ⟨(Nat.le_of_ble_eq_true rfl), (Nat.le_of_ble_eq_true rfl)⟩ ?_
        refine cS_take (N := S) ⟨by rw [e47]; exact hS.1, hS.2⟩ (fun s x y => ?_) ?_
        · rw [e48, e49]
          have h1 := hs s x y
          have h2 := hr22 _ h1.2.1 h1.2.2
          refine ⟨h1.1, by omega, ?_, ?_⟩
          · rw [h2.1]; exact Nat.lt_of_lt_of_le h2.2 (by decide)
          · rw [h2.1]; exact fun q => nz _ h1.2.1 h1.2.2 (UInt64.toNat_inj.mp q)
        refine j_aload_n (p2 := 75) dX_doStep_74 rfl rfl ?_
        refine j_callV (m' := mX_noteApart) (As := []) (p2 := 78) dX_doStep_75 rfl ml_X_213 ok_mX_noteApart im_mX_noteApart se_mX_noteApart rfl rfl (Nat.le_of_ble_eq_true rfl) ly_0 rfl (Nat.le_of_ble_eq_true rfl) ⟨(Nat.le_of_ble_eq_true rfl), (Nat.le_of_ble_eq_true rfl)⟩ ?_
        refine cX_noteApart (N := N) ⟨hT5.1.1.2.1.1, hN2⟩ hT5.1.2.1 hT5.2.1.2.1 ?_
        refine j_return dX_doStep_78 rfl (by exact fin)
      rw [hτ1] at go2
      refine j_aload_n (p2 := 41) dX_doStep_40 rfl rfl ?_
      refine j_dup (p2 := 42) dX_doStep_41 rfl rfl ?_
      refine j_getIk (p2 := 45) dX_doStep_42 rfl fa_X_164 ly_0 rfl (ki := 10) rfl ?_
      refine j_iconst (p2 := 46) dX_doStep_45 rfl ?_
      refine j_iadd (p2 := 47) dX_doStep_46 rfl ?_
      refine j_putIk (p2 := 50) dX_doStep_47 rfl fw_X_164 ly_0 rfl (ki := 10) rfl ?_
      refine j_aload_n (p2 := 51) dX_doStep_50 rfl rfl ?_
      refine j_dup (p2 := 52) dX_doStep_51 rfl rfl ?_
      refine j_getIk (p2 := 55) dX_doStep_52 rfl fa_X_227 ly_0 rfl (ki := 12) rfl ?_
      refine j_iconst (p2 := 56) dX_doStep_55 rfl ?_
      refine j_iadd (p2 := 57) dX_doStep_56 rfl ?_
      refine j_putIk (p2 := 60) dX_doStep_57 rfl fw_X_227 ly_0 rfl (ki := 12) rfl ?_
      refine J.loc (lv' := [(0, _)]) ⟨rfl, trivial⟩ ?_
      exact go2
    refine j_aload_n (p2 := 14) dX_doStep_13 rfl rfl ?_
    refine j_getR (p2 := 17) dX_doStep_14 rfl fa_X_10 ly_0 rfl ?_
    refine j_getIk (p2 := 20) dX_doStep_17 rfl fa_X_131 ly_3 rfl (ki := 2) rfl ?_
    refine j_callS (m' := mN_powerOfHalf) (As := [_]) (p2 := 23) dX_doStep_20 rfl ml_X_219 ok_mN_powerOfHalf sm_mN_powerOfHalf rfl rfl (Nat.le_of_ble_eq_true rfl) (Nat.le_of_ble_eq_true rfl) ⟨(Nat.le_of_ble_eq_true rfl), (Nat.le_of_ble_eq_true rfl)⟩ ?_
    rw [ek]
    refine cN_powL hk.2.1 (by omega) ?_
    refine j_dstore_n (p2 := 24) (lv' := [(0, _), (1, _)]) dX_doStep_23 rfl (Nat.le_of_ble_eq_true rfl) ⟨rfl, rfl, trivial⟩ ?_
    refine j_aload_n (p2 := 25) dX_doStep_24 rfl rfl ?_
    refine j_getR (p2 := 28) dX_doStep_25 rfl fa_X_37 ly_0 rfl ?_
    refine j_dload_n (p2 := 29) dX_doStep_28 rfl rfl ?_
    refine j_callV (m' := mT_advance) (As := [_]) (p2 := 32) dX_doStep_29 rfl ml_X_223 ok_mT_advance im_mT_advance se_mT_advance rfl rfl (Nat.le_of_ble_eq_true rfl) ly_21 rfl (Nat.le_of_ble_eq_true rfl) ⟨(Nat.le_of_ble_eq_true rfl), (Nat.le_of_ble_eq_true rfl)⟩ ?_
    refine cTd_advance (h := lenD k) (h2 := lenD (k + 1)) a1 c1 a2 a3 a4 rfl (lenD_mh k) (lenD_half k (by omega)) (lenD_mh (k + 1)) hru1 (fun τ F2 d1 d2 d3 d4 d5 d6 => ?_)
    rw [← hgD] at d1 d2 d3 d4 d6
    have b1 := Cxf_fr b1 F2 (by decide)
    have b2 := Rdf_fr b2 F2 (by decide)
    have b3 := Stf_fr b3 F2 (by decide)
    have b4 := Sdf_fr b4 F2 (by decide)
    have hru2 : 0 ≤ hI τ 3 1 ∧ hI τ 3 1 ≤ 2 := by rw [F2.I (by decide)]; exact hru1
    refine j_aload_n (p2 := 33) dX_doStep_32 rfl rfl ?_
    refine j_getR (p2 := 36) dX_doStep_33 rfl fa_X_41 ly_0 rfl ?_
    refine j_dload_n (p2 := 37) dX_doStep_36 rfl rfl ?_
    refine j_callV (m' := mT_advance) (As := [_]) (p2 := 40) dX_doStep_37 rfl ml_X_223 ok_mT_advance im_mT_advance se_mT_advance rfl rfl (Nat.le_of_ble_eq_true rfl) ly_34 rfl (Nat.le_of_ble_eq_true rfl) ⟨(Nat.le_of_ble_eq_true rfl), (Nat.le_of_ble_eq_true rfl)⟩ ?_
    refine cTf_advance (h := FP.d2f (lenD k)) (h2 := FP.d2f (lenD (k + 1))) b1 d5 b2 b3 b4 (lenD_f k (by omega)).symm hh1 ((lenD_half k (by omega)).trans (lenD_f (k + 1) (by omega)).symm) hh2 hru2 (fun τ2 F3 g1 g2 g3 g4 g5 g6 => ?_)
    rw [← hgF] at g1 g2 g3 g4 g6
    have d1 := Cxd_fr d1 F3 (by decide)
    have d2 := Rdd_fr d2 F3 (by decide)
    have d3 := Std_fr d3 F3 (by decide)
    have d4 := Sdd_fr d4 F3 (by decide)
    refine J.loc (lv' := [(0, _)]) ⟨rfl, trivial⟩ ?_
    exact last τ2 ((F2.weak (by decide)).trans (F3.weak (by decide))) ⟨⟨d1, d2, d3, d4⟩, ⟨g1, g2, g3, g4⟩, g5⟩ (by rw [g6.1, d6.2, d6.1, e191, F1.I (by decide), lms_lms])
  rw [hσ1] at go
  refine j_aload_n (p2 := 1) dX_doStep_0 rfl rfl ?_
  refine j_getR (p2 := 4) dX_doStep_1 rfl fa_X_28 ly_0 rfl ?_
  refine j_aload_n (p2 := 5) dX_doStep_4 rfl rfl ?_
  refine j_getIk (p2 := 8) dX_doStep_5 rfl fa_X_164 ly_0 rfl (ki := 10) rfl ?_
  refine j_iconst (p2 := 9) dX_doStep_8 rfl ?_
  refine j_iadd (p2 := 10) dX_doStep_9 rfl ?_
  refine j_putIk (p2 := 13) dX_doStep_10 rfl fw_X_216 ly_19 rfl (ki := 1) rfl ?_
  refine J.loc (lv' := [(0, _)]) ⟨rfl, trivial⟩ ?_
  exact go
end PAN3
