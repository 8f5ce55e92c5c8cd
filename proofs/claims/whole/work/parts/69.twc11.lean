/-! ===== the class's twins: advance, whole ===== -/
section TWC11
variable {σ : Hp} {Q : Option PV → Hp → Prop}
/-- the parts of the twin that stay where F does not reach -/
theorem ptd_mv {τ ω : Hp} {nx : Int → UInt64} {sd : Int → Int} {N : Nat} (G : Fq [22, 24, 20, 30, 31, 32, 33] τ ω) (hco : Cod τ nx N) (hsd : Sdd τ sd N) {bf : Int → UInt64} (hb : Ahd τ bf N) : Cod ω nx N ∧ Sdd ω sd N ∧ Ahd ω bf N := by
  have g4 := G.I (c := 4) (by decide)
  have gd := G.I (c := 27) (by decide)
  have gc := G.D (c := 29) (by decide)
  have ga := G.D (c := 28) (by decide)
  refine ⟨?_, ?_, ?_⟩
  · unfold Cod at hco ⊢; rw [gc, g4]; exact hco
  · unfold Sdd at hsd ⊢; rw [gd, g4]; exact hsd
  · unfold Ahd at hb ⊢; rw [ga]; exact hb
theorem krd_mv {τ ω : Hp} {c : Nat} {K : Int → UInt64} {N : Nat} (e : hD ω c = hD τ c) (e4 : hI ω 4 = hI τ 4) (h : Krd τ c K N) : Krd ω c K N := by
  unfold Krd at h ⊢; rw [e, e4]; exact h
theorem add_0 {τ : Hp} {fr : Int → Int} {se : Int → UInt64} {nn : Int → Int} {row nx bf K1 : Int → UInt64} {h h2 : UInt64} {len half : UInt64} {L : List Int} {N : Nat} {P : Pt UInt64} {x : (Int → UInt64) × (Int → UInt64) × (Int → Bool)} {sd f : Int → Int} {t : Int} (F : Fq [22, 24, 25, 26, 27, 28, 29, 30, 31, 32, 33, 20] σ τ) (hx : Cxd τ fr se nn row L N P) (hl : Lpd τ N) (hlm : hI τ 20 = lms f t x.2.2 ∧ hI τ 19 1 = t) (hr : Rdd τ x.1 N) (hs : Std τ x.2.1 N) (hb : Ahd τ bf N) (hK : Krd τ 30 K1 N) (hco : Cod τ nx N) (hsd : Sdd τ sd N) (hlen : len = cvD h) (hh : MhD h) (hru : hI τ 3 1 = 0) (hfin : Find σ fr se nn row nx L N P (gMo arD P h bf K1 x) sd f t Q) : J mT_advance 33 [(0, vR 21), (1, vD len), (3, vD half)] [] τ Q := by
  refine j_aload_n (p2 := 34) dT_advance_33 rfl rfl ?_
  refine j_getR (p2 := 37) dT_advance_34 rfl fa_T_49 ly_21 rfl ?_
  refine j_getIk (p2 := 40) dT_advance_37 rfl fa_T_99 ly_3 rfl (ki := 1) rfl ?_
  refine j_if_ne (p2 := 43) (tg := 55) dT_advance_40 rfl (by decide) (by rw [hru]; decide) (fun h40 => ?_) (fun h40 => ?_)
  · exfalso
    exact h40 hru
  · refine j_aload_n (p2 := 44) dT_advance_43 rfl rfl ?_
    refine j_aload_n (p2 := 45) dT_advance_44 rfl rfl ?_
    refine j_getR (p2 := 48) dT_advance_45 rfl fa_T_37 ly_21 rfl ?_
    refine j_dload_n (p2 := 49) dT_advance_48 rfl rfl ?_
    refine j_callV (m' := mT_moveStates) (As := [_, _]) (p2 := 52) dT_advance_49 rfl ml_T_102 ok_mT_moveStates im_mT_moveStates se_mT_moveStates rfl rfl (Nat.le_of_ble_eq_true rfl) ly_21 rfl (Nat.le_of_ble_eq_true rfl) ⟨(Nat.le_of_ble_eq_true rfl), (Nat.le_of_ble_eq_true rfl)⟩ ?_
    refine cTd_moveStates_k1 (st := x.2.1) (bf := bf) (K := K1) hx.2.1 hx.2.2.1 hlen hh hs hb (fun m z y w => ⟨(hK m z y w).1, mr_mkD (hK m z y w).2⟩) hl (fun S hS => ?_)
    refine j_goto (p2 := 147) dT_advance_52 (by decide) ?_
    refine J.loc (lv' := [(0, _)]) ⟨rfl, trivial⟩ ?_
    exact add_mv F hx hl hlm hr hco hsd hfin S hS
theorem add_1 {τ : Hp} {fr : Int → Int} {se : Int → UInt64} {nn : Int → Int} {row nx bf K1 : Int → UInt64} {h h2 : UInt64} {len half : UInt64} {L : List Int} {N : Nat} {P : Pt UInt64} {x : (Int → UInt64) × (Int → UInt64) × (Int → Bool)} {sd f : Int → Int} {t : Int} (F : Fq [22, 24, 25, 26, 27, 28, 29, 30, 31, 32, 33, 20] σ τ) (hx : Cxd τ fr se nn row L N P) (hl : Lpd τ N) (hlm : hI τ 20 = lms f t x.2.2 ∧ hI τ 19 1 = t) (hr : Rdd τ x.1 N) (hs : Std τ x.2.1 N) (hb : Ahd τ bf N) (hK : Krd τ 30 K1 N) (hco : Cod τ nx N) (hsd : Sdd τ sd N) (hlen : len = cvD h) (hh : MhD h) (hlen2 : half = cvD h2) (hh2 : MhD h2) (hru : hI τ 3 1 = 1) (hfin : Find σ fr se nn row nx L N P (gR1 arD P row h h2 bf K1 x) sd f t Q) : J mT_advance 33 [(0, vR 21), (1, vD len), (3, vD half)] [] τ Q := by
  refine j_aload_n (p2 := 34) dT_advance_33 rfl rfl ?_
  refine j_getR (p2 := 37) dT_advance_34 rfl fa_T_49 ly_21 rfl ?_
  refine j_getIk (p2 := 40) dT_advance_37 rfl fa_T_99 ly_3 rfl (ki := 1) rfl ?_
  refine j_if_ne (p2 := 43) (tg := 55) dT_advance_40 rfl (by decide) (by rw [hru]; decide) (fun h40 => ?_) (fun h40 => ?_)
  · refine j_aload_n (p2 := 56) dT_advance_55 rfl rfl ?_
    refine j_getR (p2 := 59) dT_advance_56 rfl fa_T_49 ly_21 rfl ?_
    refine j_getIk (p2 := 62) dT_advance_59 rfl fa_T_99 ly_3 rfl (ki := 1) rfl ?_
    refine j_iconst (p2 := 63) dT_advance_62 rfl ?_
    refine j_icmp_ne (p2 := 66) (tg := 95) dT_advance_63 rfl (by decide) (by rw [hru]; decide) (by decide) (fun h63 => ?_) (fun h63 => ?_)
    · exfalso
      exact h63 hru
    · refine j_aload_n (p2 := 67) dT_advance_66 rfl rfl ?_
      refine j_aload_n (p2 := 68) dT_advance_67 rfl rfl ?_
      refine j_getR (p2 := 71) dT_advance_68 rfl fa_T_37 ly_21 rfl ?_
      refine j_dload_n (p2 := 72) dT_advance_71 rfl rfl ?_
      refine j_aload_n (p2 := 73) dT_advance_72 rfl rfl ?_
      refine j_getR (p2 := 76) dT_advance_73 rfl fa_T_40 ly_21 rfl ?_
      refine j_callV (m' := mT_stage) (As := [_, _, _]) (p2 := 79) dT_advance_76 rfl ml_T_106 ok_mT_stage im_mT_stage se_mT_stage rfl rfl (Nat.le_of_ble_eq_true rfl) ly_21 rfl (Nat.le_of_ble_eq_true rfl) ⟨(Nat.le_of_ble_eq_true rfl), (Nat.le_of_ble_eq_true rfl)⟩ ?_
      refine cTd_stage1 (bf := bf) (K := K1) hx hl hlm hlen hh hr hs hb hK (fun ω G hx2 hl2 hlm2 hr2 hs2 hK2 => ?_)
      have g4 := G.I (c := 4) (by decide)
      obtain ⟨hco2, hsd2, hb2⟩ := ptd_mv (G.weak (by decide)) hco hsd hb
      have hK1 := krd_mv (G.D (c := 30) (by decide)) g4 hK
      generalize hy : gPh arD P row h bf K1 x = y at hlm2 hr2 hs2 hK2
      refine j_aload_n (p2 := 80) dT_advance_79 rfl rfl ?_
      refine j_callV (m' := mT_addSecondToFirst) (As := []) (p2 := 83) dT_advance_80 rfl ml_T_110 ok_mT_addSecondToFirst im_mT_addSecondToFirst se_mT_addSecondToFirst rfl rfl (Nat.le_of_ble_eq_true rfl) ly_21 rfl (Nat.le_of_ble_eq_true rfl) ⟨(Nat.le_of_ble_eq_true rfl), (Nat.le_of_ble_eq_true rfl)⟩ ?_
      refine cTd_addSecondToFirst (K1 := K1) (K2 := gK arD P y.1) hx2.2.1 hx2.2.2.1 hK1 hK2 (fun a ha => ?_)
      have H : Fq [30] ω (wD ω 30 a) := Fq.rf.wD (by decide)
      have hk : hD (wD ω 30 a) 30 = a := rfl
      generalize wD ω 30 a = ψ at H hk ⊢
      have k4 := H.I (c := 4) (by decide)
      refine j_aload_n (p2 := 84) dT_advance_83 rfl rfl ?_
      refine j_aload_n (p2 := 85) dT_advance_84 rfl rfl ?_
      refine j_getR (p2 := 88) dT_advance_85 rfl fa_T_37 ly_21 rfl ?_
      refine j_dload_n (p2 := 89) dT_advance_88 rfl rfl ?_
      refine j_callV (m' := mT_moveStates) (As := [_, _]) (p2 := 92) dT_advance_89 rfl ml_T_102 ok_mT_moveStates im_mT_moveStates se_mT_moveStates rfl rfl (Nat.le_of_ble_eq_true rfl) ly_21 rfl (Nat.le_of_ble_eq_true rfl) ⟨(Nat.le_of_ble_eq_true rfl), (Nat.le_of_ble_eq_true rfl)⟩ ?_
      refine cTd_moveStates_k1 (st := y.2.1) (bf := bf) (K := fun m => Aadd arD (K1 m) (gK arD P y.1 m)) (cxd_mv (H.weak (by decide)) hx2).2.1 (cxd_mv (H.weak (by decide)) hx2).2.2.1 hlen2 hh2 ?_ ?_ (fun m z w k => ?_) ?_ (fun S hS => ?_)
      · unfold Std at hs2; rw [H.D (c := 24) (by decide)]; exact hs2
      · unfold Ahd at hb2; rw [H.D (c := 28) (by decide)]; exact hb2
      · rw [k4] at k; rw [hk]; exact ⟨ha m z w k, adD (hK1 m z w k).2 (hK2 m z w k).2⟩
      · unfold Lpd at hl2; rw [H.I (c := 20) (by decide), H.I (c := 19) (by decide)]; exact hl2
      refine j_goto (p2 := 147) dT_advance_92 (by decide) ?_
      refine J.loc (lv' := [(0, _)]) ⟨rfl, trivial⟩ ?_
      obtain ⟨hco3, hsd3, _⟩ := ptd_mv (H.weak (by decide)) hco2 hsd2 hb2
      refine add_mv (x := y) (f := f) (t := t) ((F.trans (G.weak (by decide))).trans (H.weak (by decide))) (cxd_mv (H.weak (by decide)) hx2) ?_ ?_ ?_ hco3 hsd3 ?_ S hS
      · unfold Lpd at hl2 ⊢; rw [H.I (c := 20) (by decide), H.I (c := 19) (by decide)]; exact hl2
      · rw [H.I (c := 20) (by decide), H.I (c := 19) (by decide)]; exact hlm2
      · unfold Rdd at hr2 ⊢; rw [H.D (c := 22) (by decide)]; exact hr2
      · rw [← hy]; exact hfin
  · exfalso
    omega
/-- the parts of the twin that stay where F does not reach -/
theorem ptf_mv {τ ω : Hp} {nx : Int → UInt32} {sd : Int → Int} {N : Nat} (G : Fq [35, 37, 20, 43, 44, 45, 46] τ ω) (hco : Cof τ nx N) (hsd : Sdf τ sd N) {bf : Int → UInt32} (hb : Ahf τ bf N) : Cof ω nx N ∧ Sdf ω sd N ∧ Ahf ω bf N := by
  have g4 := G.I (c := 4) (by decide)
  have gd := G.I (c := 40) (by decide)
  have gc := G.D (c := 42) (by decide)
  have ga := G.D (c := 41) (by decide)
  refine ⟨?_, ?_, ?_⟩
  · unfold Cof at hco ⊢; rw [gc, g4]; exact hco
  · unfold Sdf at hsd ⊢; rw [gd, g4]; exact hsd
  · unfold Ahf at hb ⊢; rw [ga]; exact hb
theorem krf_mv {τ ω : Hp} {c : Nat} {K : Int → UInt32} {N : Nat} (e : hD ω c = hD τ c) (e4 : hI ω 4 = hI τ 4) (h : Krf τ c K N) : Krf ω c K N := by
  unfold Krf at h ⊢; rw [e, e4]; exact h
theorem adf_0 {τ : Hp} {fr : Int → Int} {se : Int → UInt32} {nn : Int → Int} {row nx bf K1 : Int → UInt32} {h h2 : UInt32} {len half : UInt64} {L : List Int} {N : Nat} {P : Pt UInt32} {x : (Int → UInt32) × (Int → UInt32) × (Int → Bool)} {sd f : Int → Int} {t : Int} (F : Fq [35, 37, 38, 39, 40, 41, 42, 43, 44, 45, 46, 20] σ τ) (hx : Cxf τ fr se nn row L N P) (hl : Lpf τ N) (hlm : hI τ 20 = lms f t x.2.2 ∧ hI τ 19 1 = t) (hr : Rdf τ x.1 N) (hs : Stf τ x.2.1 N) (hb : Ahf τ bf N) (hK : Krf τ 43 K1 N) (hco : Cof τ nx N) (hsd : Sdf τ sd N) (hlen : len = cvF h) (hh : MhF h) (hru : hI τ 3 1 = 0) (hfin : Finf σ fr se nn row nx L N P (gMo arF P h bf K1 x) sd f t Q) : J mT_advance 33 [(0, vR 34), (1, vD len), (3, vD half)] [] τ Q := by
  refine j_aload_n (p2 := 34) dT_advance_33 rfl rfl ?_
  refine j_getR (p2 := 37) dT_advance_34 rfl fa_T_49 ly_34 rfl ?_
  refine j_getIk (p2 := 40) dT_advance_37 rfl fa_T_99 ly_3 rfl (ki := 1) rfl ?_
  refine j_if_ne (p2 := 43) (tg := 55) dT_advance_40 rfl (by decide) (by rw [hru]; decide) (fun h40 => ?_) (fun h40 => ?_)
  · exfalso
    exact h40 hru
  · refine j_aload_n (p2 := 44) dT_advance_43 rfl rfl ?_
    refine j_aload_n (p2 := 45) dT_advance_44 rfl rfl ?_
    refine j_getR (p2 := 48) dT_advance_45 rfl fa_T_37 ly_34 rfl ?_
    refine j_dload_n (p2 := 49) dT_advance_48 rfl rfl ?_
    refine j_callV (m' := mT_moveStates) (As := [_, _]) (p2 := 52) dT_advance_49 rfl ml_T_102 ok_mT_moveStates im_mT_moveStates se_mT_moveStates rfl rfl (Nat.le_of_ble_eq_true rfl) ly_34 rfl (Nat.le_of_ble_eq_true rfl) ⟨(Nat.le_of_ble_eq_true rfl), (Nat.le_of_ble_eq_true rfl)⟩ ?_
    refine cTf_moveStates_k1 (st := x.2.1) (bf := bf) (K := K1) hx.2.1 hx.2.2.1 hlen hh hs hb (fun m z y w => ⟨(hK m z y w).1, mr_mkF (hK m z y w).2⟩) hl (fun S hS => ?_)
    refine j_goto (p2 := 147) dT_advance_52 (by decide) ?_
    refine J.loc (lv' := [(0, _)]) ⟨rfl, trivial⟩ ?_
    exact adf_mv F hx hl hlm hr hco hsd hfin S hS
theorem adf_1 {τ : Hp} {fr : Int → Int} {se : Int → UInt32} {nn : Int → Int} {row nx bf K1 : Int → UInt32} {h h2 : UInt32} {len half : UInt64} {L : List Int} {N : Nat} {P : Pt UInt32} {x : (Int → UInt32) × (Int → UInt32) × (Int → Bool)} {sd f : Int → Int} {t : Int} (F : Fq [35, 37, 38, 39, 40, 41, 42, 43, 44, 45, 46, 20] σ τ) (hx : Cxf τ fr se nn row L N P) (hl : Lpf τ N) (hlm : hI τ 20 = lms f t x.2.2 ∧ hI τ 19 1 = t) (hr : Rdf τ x.1 N) (hs : Stf τ x.2.1 N) (hb : Ahf τ bf N) (hK : Krf τ 43 K1 N) (hco : Cof τ nx N) (hsd : Sdf τ sd N) (hlen : len = cvF h) (hh : MhF h) (hlen2 : half = cvF h2) (hh2 : MhF h2) (hru : hI τ 3 1 = 1) (hfin : Finf σ fr se nn row nx L N P (gR1 arF P row h h2 bf K1 x) sd f t Q) : J mT_advance 33 [(0, vR 34), (1, vD len), (3, vD half)] [] τ Q := by
  refine j_aload_n (p2 := 34) dT_advance_33 rfl rfl ?_
  refine j_getR (p2 := 37) dT_advance_34 rfl fa_T_49 ly_34 rfl ?_
  refine j_getIk (p2 := 40) dT_advance_37 rfl fa_T_99 ly_3 rfl (ki := 1) rfl ?_
  refine j_if_ne (p2 := 43) (tg := 55) dT_advance_40 rfl (by decide) (by rw [hru]; decide) (fun h40 => ?_) (fun h40 => ?_)
  · refine j_aload_n (p2 := 56) dT_advance_55 rfl rfl ?_
    refine j_getR (p2 := 59) dT_advance_56 rfl fa_T_49 ly_34 rfl ?_
    refine j_getIk (p2 := 62) dT_advance_59 rfl fa_T_99 ly_3 rfl (ki := 1) rfl ?_
    refine j_iconst (p2 := 63) dT_advance_62 rfl ?_
    refine j_icmp_ne (p2 := 66) (tg := 95) dT_advance_63 rfl (by decide) (by rw [hru]; decide) (by decide) (fun h63 => ?_) (fun h63 => ?_)
    · exfalso
      exact h63 hru
    · refine j_aload_n (p2 := 67) dT_advance_66 rfl rfl ?_
      refine j_aload_n (p2 := 68) dT_advance_67 rfl rfl ?_
      refine j_getR (p2 := 71) dT_advance_68 rfl fa_T_37 ly_34 rfl ?_
      refine j_dload_n (p2 := 72) dT_advance_71 rfl rfl ?_
      refine j_aload_n (p2 := 73) dT_advance_72 rfl rfl ?_
      refine j_getR (p2 := 76) dT_advance_73 rfl fa_T_40 ly_34 rfl ?_
      refine j_callV (m' := mT_stage) (As := [_, _, _]) (p2 := 79) dT_advance_76 rfl ml_T_106 ok_mT_stage im_mT_stage se_mT_stage rfl rfl (Nat.le_of_ble_eq_true rfl) ly_34 rfl (Nat.le_of_ble_eq_true rfl) ⟨(Nat.le_of_ble_eq_true rfl), (Nat.le_of_ble_eq_true rfl)⟩ ?_
      refine cTf_stage1 (bf := bf) (K := K1) hx hl hlm hlen hh hr hs hb hK (fun ω G hx2 hl2 hlm2 hr2 hs2 hK2 => ?_)
      have g4 := G.I (c := 4) (by decide)
      obtain ⟨hco2, hsd2, hb2⟩ := ptf_mv (G.weak (by decide)) hco hsd hb
      have hK1 := krf_mv (G.D (c := 43) (by decide)) g4 hK
      generalize hy : gPh arF P row h bf K1 x = y at hlm2 hr2 hs2 hK2
      refine j_aload_n (p2 := 80) dT_advance_79 rfl rfl ?_
      refine j_callV (m' := mT_addSecondToFirst) (As := []) (p2 := 83) dT_advance_80 rfl ml_T_110 ok_mT_addSecondToFirst im_mT_addSecondToFirst se_mT_addSecondToFirst rfl rfl (Nat.le_of_ble_eq_true rfl) ly_34 rfl (Nat.le_of_ble_eq_true rfl) ⟨(Nat.le_of_ble_eq_true rfl), (Nat.le_of_ble_eq_true rfl)⟩ ?_
      refine cTf_addSecondToFirst (K1 := K1) (K2 := gK arF P y.1) hx2.2.1 hx2.2.2.1 hK1 hK2 (fun a ha => ?_)
      have H : Fq [43] ω (wD ω 43 a) := Fq.rf.wD (by decide)
      have hk : hD (wD ω 43 a) 43 = a := rfl
      generalize wD ω 43 a = ψ at H hk ⊢
      have k4 := H.I (c := 4) (by decide)
      refine j_aload_n (p2 := 84) dT_advance_83 rfl rfl ?_
      refine j_aload_n (p2 := 85) dT_advance_84 rfl rfl ?_
      refine j_getR (p2 := 88) dT_advance_85 rfl fa_T_37 ly_34 rfl ?_
      refine j_dload_n (p2 := 89) dT_advance_88 rfl rfl ?_
      refine j_callV (m' := mT_moveStates) (As := [_, _]) (p2 := 92) dT_advance_89 rfl ml_T_102 ok_mT_moveStates im_mT_moveStates se_mT_moveStates rfl rfl (Nat.le_of_ble_eq_true rfl) ly_34 rfl (Nat.le_of_ble_eq_true rfl) ⟨(Nat.le_of_ble_eq_true rfl), (Nat.le_of_ble_eq_true rfl)⟩ ?_
      refine cTf_moveStates_k1 (st := y.2.1) (bf := bf) (K := fun m => Aadd arF (K1 m) (gK arF P y.1 m)) (cxf_mv (H.weak (by decide)) hx2).2.1 (cxf_mv (H.weak (by decide)) hx2).2.2.1 hlen2 hh2 ?_ ?_ (fun m z w k => ?_) ?_ (fun S hS => ?_)
      · unfold Stf at hs2; rw [H.D (c := 37) (by decide)]; exact hs2
      · unfold Ahf at hb2; rw [H.D (c := 41) (by decide)]; exact hb2
      · rw [k4] at k; rw [hk]; exact ⟨ha m z w k, adF (hK1 m z w k).2 (hK2 m z w k).2⟩
      · unfold Lpf at hl2; rw [H.I (c := 20) (by decide), H.I (c := 19) (by decide)]; exact hl2
      refine j_goto (p2 := 147) dT_advance_92 (by decide) ?_
      refine J.loc (lv' := [(0, _)]) ⟨rfl, trivial⟩ ?_
      obtain ⟨hco3, hsd3, _⟩ := ptf_mv (H.weak (by decide)) hco2 hsd2 hb2
      refine adf_mv (x := y) (f := f) (t := t) ((F.trans (G.weak (by decide))).trans (H.weak (by decide))) (cxf_mv (H.weak (by decide)) hx2) ?_ ?_ ?_ hco3 hsd3 ?_ S hS
      · unfold Lpf at hl2 ⊢; rw [H.I (c := 20) (by decide), H.I (c := 19) (by decide)]; exact hl2
      · rw [H.I (c := 20) (by decide), H.I (c := 19) (by decide)]; exact hlm2
      · unfold Rdf at hr2 ⊢; rw [H.D (c := 35) (by decide)]; exact hr2
      · rw [← hy]; exact hfin
  · exfalso
    omega
/-- the parts of the twin that stay where F does not reach -/
theorem ptt_mv {τ ω : Hp} {nx : Int → UInt64} {sd : Int → Int} {N : Nat} (G : Fq [57, 59, 55, 65, 66, 67, 68] τ ω) (hco : Cot τ nx N) (hsd : Sdt τ sd N) {bf : Int → UInt64} (hb : Aht τ bf N) : Cot ω nx N ∧ Sdt ω sd N ∧ Aht ω bf N := by
  have g4 := G.I (c := 4) (by decide)
  have gd := G.I (c := 62) (by decide)
  have gc := G.D (c := 64) (by decide)
  have ga := G.D (c := 63) (by decide)
  refine ⟨?_, ?_, ?_⟩
  · unfold Cot at hco ⊢; rw [gc, g4]; exact hco
  · unfold Sdt at hsd ⊢; rw [gd, g4]; exact hsd
  · unfold Aht at hb ⊢; rw [ga]; exact hb
theorem krt_mv {τ ω : Hp} {c : Nat} {K : Int → UInt64} {N : Nat} (e : hD ω c = hD τ c) (e4 : hI ω 4 = hI τ 4) (h : Krt τ c K N) : Krt ω c K N := by
  unfold Krt at h ⊢; rw [e, e4]; exact h
theorem adt_0 {τ : Hp} {fr : Int → Int} {se : Int → UInt64} {nn : Int → Int} {row nx bf K1 : Int → UInt64} {h h2 : UInt64} {len half : UInt64} {L : List Int} {N : Nat} {P : Pt UInt64} {x : (Int → UInt64) × (Int → UInt64) × (Int → Bool)} {sd f : Int → Int} {t : Int} (F : Fq [57, 59, 60, 61, 62, 63, 64, 65, 66, 67, 68, 55] σ τ) (hx : Cxt τ fr se nn row L N P) (hl : Lpt τ N) (hlm : hI τ 55 = lms f t x.2.2 ∧ hI τ 54 1 = t) (hr : Rdt τ x.1 N) (hs : Stt τ x.2.1 N) (hb : Aht τ bf N) (hK : Krt τ 65 K1 N) (hco : Cot τ nx N) (hsd : Sdt τ sd N) (hlen : len = cvD h) (hh : MhD h) (hru : hI τ 3 1 = 0) (hfin : Fint σ fr se nn row nx L N P (gMo arD P h bf K1 x) sd f t Q) : J mT_advance 33 [(0, vR 56), (1, vD len), (3, vD half)] [] τ Q := by
  refine j_aload_n (p2 := 34) dT_advance_33 rfl rfl ?_
  refine j_getR (p2 := 37) dT_advance_34 rfl fa_T_49 ly_56 rfl ?_
  refine j_getIk (p2 := 40) dT_advance_37 rfl fa_T_99 ly_3 rfl (ki := 1) rfl ?_
  refine j_if_ne (p2 := 43) (tg := 55) dT_advance_40 rfl (by decide) (by rw [hru]; decide) (fun h40 => ?_) (fun h40 => ?_)
  · exfalso
    exact h40 hru
  · refine j_aload_n (p2 := 44) dT_advance_43 rfl rfl ?_
    refine j_aload_n (p2 := 45) dT_advance_44 rfl rfl ?_
    refine j_getR (p2 := 48) dT_advance_45 rfl fa_T_37 ly_56 rfl ?_
    refine j_dload_n (p2 := 49) dT_advance_48 rfl rfl ?_
    refine j_callV (m' := mT_moveStates) (As := [_, _]) (p2 := 52) dT_advance_49 rfl ml_T_102 ok_mT_moveStates im_mT_moveStates se_mT_moveStates rfl rfl (Nat.le_of_ble_eq_true rfl) ly_56 rfl (Nat.le_of_ble_eq_true rfl) ⟨(Nat.le_of_ble_eq_true rfl), (Nat.le_of_ble_eq_true rfl)⟩ ?_
    refine cTt_moveStates_k1 (st := x.2.1) (bf := bf) (K := K1) hx.2.1 hx.2.2.1 hlen hh hs hb (fun m z y w => ⟨(hK m z y w).1, mr_mkD (hK m z y w).2⟩) hl (fun S hS => ?_)
    refine j_goto (p2 := 147) dT_advance_52 (by decide) ?_
    refine J.loc (lv' := [(0, _)]) ⟨rfl, trivial⟩ ?_
    exact adt_mv F hx hl hlm hr hco hsd hfin S hS
theorem adt_1 {τ : Hp} {fr : Int → Int} {se : Int → UInt64} {nn : Int → Int} {row nx bf K1 : Int → UInt64} {h h2 : UInt64} {len half : UInt64} {L : List Int} {N : Nat} {P : Pt UInt64} {x : (Int → UInt64) × (Int → UInt64) × (Int → Bool)} {sd f : Int → Int} {t : Int} (F : Fq [57, 59, 60, 61, 62, 63, 64, 65, 66, 67, 68, 55] σ τ) (hx : Cxt τ fr se nn row L N P) (hl : Lpt τ N) (hlm : hI τ 55 = lms f t x.2.2 ∧ hI τ 54 1 = t) (hr : Rdt τ x.1 N) (hs : Stt τ x.2.1 N) (hb : Aht τ bf N) (hK : Krt τ 65 K1 N) (hco : Cot τ nx N) (hsd : Sdt τ sd N) (hlen : len = cvD h) (hh : MhD h) (hlen2 : half = cvD h2) (hh2 : MhD h2) (hru : hI τ 3 1 = 1) (hfin : Fint σ fr se nn row nx L N P (gR1 arD P row h h2 bf K1 x) sd f t Q) : J mT_advance 33 [(0, vR 56), (1, vD len), (3, vD half)] [] τ Q := by
  refine j_aload_n (p2 := 34) dT_advance_33 rfl rfl ?_
  refine j_getR (p2 := 37) dT_advance_34 rfl fa_T_49 ly_56 rfl ?_
  refine j_getIk (p2 := 40) dT_advance_37 rfl fa_T_99 ly_3 rfl (ki := 1) rfl ?_
  refine j_if_ne (p2 := 43) (tg := 55) dT_advance_40 rfl (by decide) (by rw [hru]; decide) (fun h40 => ?_) (fun h40 => ?_)
  · refine j_aload_n (p2 := 56) dT_advance_55 rfl rfl ?_
    refine j_getR (p2 := 59) dT_advance_56 rfl fa_T_49 ly_56 rfl ?_
    refine j_getIk (p2 := 62) dT_advance_59 rfl fa_T_99 ly_3 rfl (ki := 1) rfl ?_
    refine j_iconst (p2 := 63) dT_advance_62 rfl ?_
    refine j_icmp_ne (p2 := 66) (tg := 95) dT_advance_63 rfl (by decide) (by rw [hru]; decide) (by decide) (fun h63 => ?_) (fun h63 => ?_)
    · exfalso
      exact h63 hru
    · refine j_aload_n (p2 := 67) dT_advance_66 rfl rfl ?_
      refine j_aload_n (p2 := 68) dT_advance_67 rfl rfl ?_
      refine j_getR (p2 := 71) dT_advance_68 rfl fa_T_37 ly_56 rfl ?_
      refine j_dload_n (p2 := 72) dT_advance_71 rfl rfl ?_
      refine j_aload_n (p2 := 73) dT_advance_72 rfl rfl ?_
      refine j_getR (p2 := 76) dT_advance_73 rfl fa_T_40 ly_56 rfl ?_
      refine j_callV (m' := mT_stage) (As := [_, _, _]) (p2 := 79) dT_advance_76 rfl ml_T_106 ok_mT_stage im_mT_stage se_mT_stage rfl rfl (Nat.le_of_ble_eq_true rfl) ly_56 rfl (Nat.le_of_ble_eq_true rfl) ⟨(Nat.le_of_ble_eq_true rfl), (Nat.le_of_ble_eq_true rfl)⟩ ?_
      refine cTt_stage1 (bf := bf) (K := K1) hx hl hlm hlen hh hr hs hb hK (fun ω G hx2 hl2 hlm2 hr2 hs2 hK2 => ?_)
      have g4 := G.I (c := 4) (by decide)
      obtain ⟨hco2, hsd2, hb2⟩ := ptt_mv (G.weak (by decide)) hco hsd hb
      have hK1 := krt_mv (G.D (c := 65) (by decide)) g4 hK
      generalize hy : gPh arD P row h bf K1 x = y at hlm2 hr2 hs2 hK2
      refine j_aload_n (p2 := 80) dT_advance_79 rfl rfl ?_
      refine j_callV (m' := mT_addSecondToFirst) (As := []) (p2 := 83) dT_advance_80 rfl ml_T_110 ok_mT_addSecondToFirst im_mT_addSecondToFirst se_mT_addSecondToFirst rfl rfl (Nat.le_of_ble_eq_true rfl) ly_56 rfl (Nat.le_of_ble_eq_true rfl) ⟨(Nat.le_of_ble_eq_true rfl), (Nat.le_of_ble_eq_true rfl)⟩ ?_
      refine cTt_addSecondToFirst (K1 := K1) (K2 := gK arD P y.1) hx2.2.1 hx2.2.2.1 hK1 hK2 (fun a ha => ?_)
      have H : Fq [65] ω (wD ω 65 a) := Fq.rf.wD (by decide)
      have hk : hD (wD ω 65 a) 65 = a := rfl
      generalize wD ω 65 a = ψ at H hk ⊢
      have k4 := H.I (c := 4) (by decide)
      refine j_aload_n (p2 := 84) dT_advance_83 rfl rfl ?_
      refine j_aload_n (p2 := 85) dT_advance_84 rfl rfl ?_
      refine j_getR (p2 := 88) dT_advance_85 rfl fa_T_37 ly_56 rfl ?_
      refine j_dload_n (p2 := 89) dT_advance_88 rfl rfl ?_
      refine j_callV (m' := mT_moveStates) (As := [_, _]) (p2 := 92) dT_advance_89 rfl ml_T_102 ok_mT_moveStates im_mT_moveStates se_mT_moveStates rfl rfl (Nat.le_of_ble_eq_true rfl) ly_56 rfl (Nat.le_of_ble_eq_true rfl) ⟨(Nat.le_of_ble_eq_true rfl), (Nat.le_of_ble_eq_true rfl)⟩ ?_
      refine cTt_moveStates_k1 (st := y.2.1) (bf := bf) (K := fun m => Aadd arD (K1 m) (gK arD P y.1 m)) (cxt_mv (H.weak (by decide)) hx2).2.1 (cxt_mv (H.weak (by decide)) hx2).2.2.1 hlen2 hh2 ?_ ?_ (fun m z w k => ?_) ?_ (fun S hS => ?_)
      · unfold Stt at hs2; rw [H.D (c := 59) (by decide)]; exact hs2
      · unfold Aht at hb2; rw [H.D (c := 63) (by decide)]; exact hb2
      · rw [k4] at k; rw [hk]; exact ⟨ha m z w k, adD (hK1 m z w k).2 (hK2 m z w k).2⟩
      · unfold Lpt at hl2; rw [H.I (c := 55) (by decide), H.I (c := 54) (by decide)]; exact hl2
      refine j_goto (p2 := 147) dT_advance_92 (by decide) ?_
      refine J.loc (lv' := [(0, _)]) ⟨rfl, trivial⟩ ?_
      obtain ⟨hco3, hsd3, _⟩ := ptt_mv (H.weak (by decide)) hco2 hsd2 hb2
      refine adt_mv (x := y) (f := f) (t := t) ((F.trans (G.weak (by decide))).trans (H.weak (by decide))) (cxt_mv (H.weak (by decide)) hx2) ?_ ?_ ?_ hco3 hsd3 ?_ S hS
      · unfold Lpt at hl2 ⊢; rw [H.I (c := 55) (by decide), H.I (c := 54) (by decide)]; exact hl2
      · rw [H.I (c := 55) (by decide), H.I (c := 54) (by decide)]; exact hlm2
      · unfold Rdt at hr2 ⊢; rw [H.D (c := 57) (by decide)]; exact hr2
      · rw [← hy]; exact hfin
  · exfalso
    omega
end TWC11
