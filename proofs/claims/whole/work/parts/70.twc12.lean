/-! ===== the class's twins: advance by the third rule; advance ===== -/
section TWC12
variable {σ : Hp} {Q : Option PV → Hp → Prop}
theorem add_2 {τ : Hp} {fr : Int → Int} {se : Int → UInt64} {nn : Int → Int} {row nx bf K1 : Int → UInt64} {h h2 : UInt64} {len half : UInt64} {L : List Int} {N : Nat} {P : Pt UInt64} {x : (Int → UInt64) × (Int → UInt64) × (Int → Bool)} {sd f : Int → Int} {t : Int} (F : Fq [22, 24, 25, 26, 27, 28, 29, 30, 31, 32, 33, 20] σ τ) (hx : Cxd τ fr se nn row L N P) (hl : Lpd τ N) (hlm : hI τ 20 = lms f t x.2.2 ∧ hI τ 19 1 = t) (hr : Rdd τ x.1 N) (hs : Std τ x.2.1 N) (hb : Ahd τ bf N) (hK : Krd τ 30 K1 N) (hco : Cod τ nx N) (hsd : Sdd τ sd N) (hlen : len = cvD h) (hh : MhD h) (hlen2 : half = cvD h2) (hh2 : MhD h2) (hru : hI τ 3 1 = 2) (hfin : Find σ fr se nn row nx L N P (gR2 arD P row h h2 bf K1 x) sd f t Q) : J mT_advance 33 [(0, vR 21), (1, vD len), (3, vD half)] [] τ Q := by
  unfold gR2 at hfin
  dsimp only at hfin
  refine j_aload_n (p2 := 34) dT_advance_33 rfl rfl ?_
  refine j_getR (p2 := 37) dT_advance_34 rfl fa_T_49 ly_21 rfl ?_
  refine j_getIk (p2 := 40) dT_advance_37 rfl fa_T_99 ly_3 rfl (ki := 1) rfl ?_
  refine j_if_ne (p2 := 43) (tg := 55) dT_advance_40 rfl (by decide) (by rw [hru]; decide) (fun h40 => ?_) (fun h40 => ?_)
  · refine j_aload_n (p2 := 56) dT_advance_55 rfl rfl ?_
    refine j_getR (p2 := 59) dT_advance_56 rfl fa_T_49 ly_21 rfl ?_
    refine j_getIk (p2 := 62) dT_advance_59 rfl fa_T_99 ly_3 rfl (ki := 1) rfl ?_
    refine j_iconst (p2 := 63) dT_advance_62 rfl ?_
    refine j_icmp_ne (p2 := 66) (tg := 95) dT_advance_63 rfl (by decide) (by rw [hru]; decide) (by decide) (fun h63 => ?_) (fun h63 => ?_)
    · refine j_aload_n (p2 := 96) dT_advance_95 rfl rfl ?_
      refine j_aload_n (p2 := 97) dT_advance_96 rfl rfl ?_
      refine j_getR (p2 := 100) dT_advance_97 rfl fa_T_37 ly_21 rfl ?_
      refine j_dload_n (p2 := 101) dT_advance_100 rfl rfl ?_
      refine j_aload_n (p2 := 102) dT_advance_101 rfl rfl ?_
      refine j_getR (p2 := 105) dT_advance_102 rfl fa_T_40 ly_21 rfl ?_
      refine j_callV (m' := mT_stage) (As := [_, _, _]) (p2 := 108) dT_advance_105 rfl ml_T_106 ok_mT_stage im_mT_stage se_mT_stage rfl rfl (Nat.le_of_ble_eq_true rfl) ly_21 rfl (Nat.le_of_ble_eq_true rfl) ⟨(Nat.le_of_ble_eq_true rfl), (Nat.le_of_ble_eq_true rfl)⟩ ?_
      refine cTd_stage1 (bf := bf) (K := K1) hx hl hlm hlen2 hh2 hr hs hb hK (fun ω G hx2 hl2 hlm2 hr2 hs2 hK2 => ?_)
      have g4 := G.I (c := 4) (by decide)
      obtain ⟨hco2, hsd2, hb2⟩ := ptd_mv (G.weak (by decide)) hco hsd hb
      have hK1 := krd_mv (G.D (c := 30) (by decide)) g4 hK
      generalize gPh arD P row h2 bf K1 x = y at hlm2 hr2 hs2 hK2 hfin
      have F2 := F.trans (G.weak (by decide))
      clear F hx hl hlm hr hs hb hK hco hsd hru g4 G
      refine j_aload_n (p2 := 109) dT_advance_108 rfl rfl ?_
      refine j_aload_n (p2 := 110) dT_advance_109 rfl rfl ?_
      refine j_getR (p2 := 113) dT_advance_110 rfl fa_T_40 ly_21 rfl ?_
      refine j_dload_n (p2 := 114) dT_advance_113 rfl rfl ?_
      refine j_aload_n (p2 := 115) dT_advance_114 rfl rfl ?_
      refine j_getR (p2 := 118) dT_advance_115 rfl fa_T_43 ly_21 rfl ?_
      refine j_callV (m' := mT_stage) (As := [_, _, _]) (p2 := 121) dT_advance_118 rfl ml_T_106 ok_mT_stage im_mT_stage se_mT_stage rfl rfl (Nat.le_of_ble_eq_true rfl) ly_21 rfl (Nat.le_of_ble_eq_true rfl) ⟨(Nat.le_of_ble_eq_true rfl), (Nat.le_of_ble_eq_true rfl)⟩ ?_
      refine cTd_stage2 (bf := bf) (K := gK arD P y.1) hx2 hl2 hlm2 hlen2 hh2 hr2 hs2 hb2 hK2 (fun ψ G hx3 hl3 hlm3 hr3 hs3 hK3 => ?_)
      have g4 := G.I (c := 4) (by decide)
      obtain ⟨hco3, hsd3, hb3⟩ := ptd_mv (G.weak (by decide)) hco2 hsd2 hb2
      have hK1b := krd_mv (G.D (c := 30) (by decide)) g4 hK1
      have hK2b := krd_mv (G.D (c := 31) (by decide)) g4 hK2
      generalize gPh arD P row h2 bf (gK arD P y.1) y = y3 at hlm3 hr3 hs3 hK3 hfin
      have F3 := F2.trans (G.weak (by decide))
      clear F2 hx2 hl2 hlm2 hr2 hs2 hb2 hK1 hK2 hco2 hsd2 g4 G
      refine j_aload_n (p2 := 122) dT_advance_121 rfl rfl ?_
      refine j_aload_n (p2 := 123) dT_advance_122 rfl rfl ?_
      refine j_getR (p2 := 126) dT_advance_123 rfl fa_T_43 ly_21 rfl ?_
      refine j_dload_n (p2 := 127) dT_advance_126 rfl rfl ?_
      refine j_aload_n (p2 := 128) dT_advance_127 rfl rfl ?_
      refine j_getR (p2 := 131) dT_advance_128 rfl fa_T_46 ly_21 rfl ?_
      refine j_callV (m' := mT_stage) (As := [_, _, _]) (p2 := 134) dT_advance_131 rfl ml_T_106 ok_mT_stage im_mT_stage se_mT_stage rfl rfl (Nat.le_of_ble_eq_true rfl) ly_21 rfl (Nat.le_of_ble_eq_true rfl) ⟨(Nat.le_of_ble_eq_true rfl), (Nat.le_of_ble_eq_true rfl)⟩ ?_
      refine cTd_stage3 (bf := bf) (K := gK arD P y3.1) hx3 hl3 hlm3 hlen hh hr3 hs3 hb3 hK3 (fun χ G hx4 hl4 hlm4 hr4 hs4 hK4 => ?_)
      have g4 := G.I (c := 4) (by decide)
      obtain ⟨hco4, hsd4, hb4⟩ := ptd_mv (G.weak (by decide)) hco3 hsd3 hb3
      have hK1c := krd_mv (G.D (c := 30) (by decide)) g4 hK1b
      have hK2c := krd_mv (G.D (c := 31) (by decide)) g4 hK2b
      have hK3c := krd_mv (G.D (c := 32) (by decide)) g4 hK3
      generalize gPh arD P row h bf (gK arD P y3.1) y3 = y4 at hlm4 hr4 hs4 hK4 hfin
      have F4 := F3.trans (G.weak (by decide))
      clear F3 hx3 hl3 hlm3 hr3 hs3 hb3 hK1b hK2b hK3 hco3 hsd3 g4 G
      refine j_aload_n (p2 := 135) dT_advance_134 rfl rfl ?_
      refine j_callV (m' := mT_weighIntoFirst) (As := []) (p2 := 138) dT_advance_135 rfl ml_T_113 ok_mT_weighIntoFirst im_mT_weighIntoFirst se_mT_weighIntoFirst rfl rfl (Nat.le_of_ble_eq_true rfl) ly_21 rfl (Nat.le_of_ble_eq_true rfl) ⟨(Nat.le_of_ble_eq_true rfl), (Nat.le_of_ble_eq_true rfl)⟩ ?_
      refine cTd_weighIntoFirst (K1 := K1) (K2 := gK arD P y.1) (K3 := gK arD P y3.1) (K4 := gK arD P y4.1) hx4.2.1 hx4.2.2.1 hK1c hK2c hK3c hK4 (fun a ha => ?_)
      have H : Fq [30] χ (wD χ 30 a) := Fq.rf.wD (by decide)
      have hk : hD (wD χ 30 a) 30 = a := rfl
      generalize wD χ 30 a = ψ5 at H hk ⊢
      have k4 := H.I (c := 4) (by decide)
      refine j_aload_n (p2 := 139) dT_advance_138 rfl rfl ?_
      refine j_aload_n (p2 := 140) dT_advance_139 rfl rfl ?_
      refine j_getR (p2 := 143) dT_advance_140 rfl fa_T_37 ly_21 rfl ?_
      refine j_dload_n (p2 := 144) dT_advance_143 rfl rfl ?_
      refine j_callV (m' := mT_moveStates) (As := [_, _]) (p2 := 147) dT_advance_144 rfl ml_T_102 ok_mT_moveStates im_mT_moveStates se_mT_moveStates rfl rfl (Nat.le_of_ble_eq_true rfl) ly_21 rfl (Nat.le_of_ble_eq_true rfl) ⟨(Nat.le_of_ble_eq_true rfl), (Nat.le_of_ble_eq_true rfl)⟩ ?_
      refine cTd_moveStates_k1 (st := y4.2.1) (bf := bf) (K := fun m => gwg arD (K1 m) (gK arD P y.1 m) (gK arD P y3.1 m) (gK arD P y4.1 m)) (cxd_mv (H.weak (by decide)) hx4).2.1 (cxd_mv (H.weak (by decide)) hx4).2.2.1 hlen hh ?_ ?_ (fun m z w k => ?_) ?_ (fun S hS => ?_)
      · unfold Std at hs4; rw [H.D (c := 24) (by decide)]; exact hs4
      · unfold Ahd at hb4; rw [H.D (c := 28) (by decide)]; exact hb4
      · rw [k4] at k; rw [hk]; exact ⟨ha m z w k, (wgD (hK1c m z w k).2 (hK2c m z w k).2 (hK3c m z w k).2 (hK4 m z w k).2).2.2.2.2.2⟩
      · unfold Lpd at hl4; rw [H.I (c := 20) (by decide), H.I (c := 19) (by decide)]; exact hl4
      refine J.loc (lv' := [(0, _)]) ⟨rfl, trivial⟩ ?_
      obtain ⟨hco5, hsd5, _⟩ := ptd_mv (H.weak (by decide)) hco4 hsd4 hb4
      refine add_mv (x := y4) (f := f) (t := t) (F4.trans (H.weak (by decide))) (cxd_mv (H.weak (by decide)) hx4) ?_ ?_ ?_ hco5 hsd5 hfin S hS
      · unfold Lpd at hl4 ⊢; rw [H.I (c := 20) (by decide), H.I (c := 19) (by decide)]; exact hl4
      · rw [H.I (c := 20) (by decide), H.I (c := 19) (by decide)]; exact hlm4
      · unfold Rdd at hr4 ⊢; rw [H.D (c := 22) (by decide)]; exact hr4
    · exfalso
      rw [hru] at h63
      exact absurd h63 (by decide)
  · exfalso
    omega
theorem cTd_advance {fr : Int → Int} {se : Int → UInt64} {nn : Int → Int} {L : List Int} {N : Nat} {P : Pt UInt64} {T : Ts UInt64} {h h2 : UInt64} {len : UInt64} (hx : Cxd σ fr se nn T.2.2.1 L N P) (hl : Lpd σ N) (hr : Rdd σ T.1 N) (hs : Std σ T.2.1 N) (hsd : Sdd σ T.2.2.2 N) (hlen : len = cvD h) (hh : MhD h) (hlen2 : FP.dmul len 4602678819172646912 = cvD h2) (hh2 : MhD h2) (hru : 0 ≤ hI σ 3 1 ∧ hI σ 3 1 ≤ 2)
    (hQ : ∀ τ, Fq [22, 24, 25, 26, 27, 28, 29, 30, 31, 32, 33, 20] σ τ → Cxd τ fr se nn (gstep arD zcD P h h2 T).1.2.2.1 L N P → Rdd τ (gstep arD zcD P h h2 T).1.1 N → Std τ (gstep arD zcD P h h2 T).1.2.1 N → Sdd τ (gstep arD zcD P h h2 T).1.2.2.2 N → Lpd τ N → hI τ 20 = lms (hI σ 20) (hI σ 19 1) (gstep arD zcD P h h2 T).2 ∧ hI τ 19 1 = hI σ 19 1 → Q none τ) : Sp mT_advance [vR 21, vD len] σ Q := by
  obtain ⟨E1, E2, E3, E4, E5, E6, E7, E8⟩ := cxd_E (row := T.2.2.1) (st := T.2.1) hx
  obtain ⟨half, hhalf⟩ : ∃ half, half = FP.dmul len 4602678819172646912 := ⟨_, rfl⟩
  have nh : vf_n64 (FP.dmul len 4602678819172646912) := by rw [hlen2]; exact cvD_nn (fn_nnD (mh_fnD hh2))
  have hhlf : half = cvD h2 := hhalf.trans hlen2
  obtain ⟨nx, hnx⟩ : ∃ nx, nx = gnx arD (pK P) (pFr P) (pTu P) T.1 T.2.1 := ⟨_, rfl⟩
  have hfin : Find σ fr se nn T.2.2.1 nx L N P (gMid arD P T.2.2.1 h h2 T.1 T.2.1) T.2.2.2 (hI σ 20) (hI σ 19 1) Q := by
    intro st' row' sd' q e1 e2 e3 e4 τ F hx' hr' hs' hsd' hl' hlm'
    subst e4
    subst e1
    subst e2
    subst e3
    subst hnx
    exact hQ τ F hx' hr' hs' hsd' hl' hlm'
  clear hQ
  have main : ∀ τ, Fq [22, 24, 25, 26, 27, 28, 29, 30, 31, 32, 33, 20] σ τ → Cxd τ fr se nn T.2.2.1 L N P → Lpd τ N → hI τ 20 = hI σ 20 ∧ hI τ 19 1 = hI σ 19 1 → Rdd τ T.1 N → Std τ T.2.1 N → Ahd τ T.2.1 N → Krd τ 30 (gK arD P T.1) N → Cod τ nx N → Sdd τ T.2.2.2 N → hI τ 3 1 = hI σ 3 1 → J mT_advance 33 [(0, vR 21), (1, vD len), (3, vD half)] [] τ Q := by
    intro τ F hx2 hl2 hlm2 hr2 hs2 hb2 hK2 hco2 hsd2 hru2
    have hlm3 : hI τ 20 = lms (hI σ 20) (hI σ 19 1) (fun _ => false) ∧ hI τ 19 1 = hI σ 19 1 := ⟨by rw [lms_0]; exact hlm2.1, hlm2.2⟩
    unfold gMid at hfin
    rw [E8] at hfin
    rcases (by omega : hI σ 3 1 = 0 ∨ hI σ 3 1 = 1 ∨ hI σ 3 1 = 2) with g | g | g
    · rw [if_pos g] at hfin
      exact add_0 (h2 := h2) (x := (T.1, T.2.1, fun _ => false)) F hx2 hl2 hlm3 hr2 hs2 hb2 hK2 hco2 hsd2 hlen hh (hru2.trans g) hfin
    · rw [if_neg (by omega), if_pos g] at hfin
      exact add_1 (x := (T.1, T.2.1, fun _ => false)) F hx2 hl2 hlm3 hr2 hs2 hb2 hK2 hco2 hsd2 hlen hh hhlf hh2 (hru2.trans g) hfin
    · rw [if_neg (by omega), if_neg (by omega)] at hfin
      exact add_2 (x := (T.1, T.2.1, fun _ => false)) F hx2 hl2 hlm3 hr2 hs2 hb2 hK2 hco2 hsd2 hlen hh hhlf hh2 (hru2.trans g) hfin
  clear hfin
  have hN2 := hx.2.1.2.1
  refine j_dload_n (p2 := 1) dT_advance_0 rfl rfl ?_
  refine j_ldc2d (p2 := 4) dT_advance_1 rfl cw_T_84 ?_
  refine j_dmul (p2 := 5) dT_advance_4 rfl nh ?_
  refine j_dstore_n (p2 := 6) (lv' := [(0, _), (1, _), (3, _)]) dT_advance_5 rfl (Nat.le_of_ble_eq_true rfl) ⟨rfl, rfl, rfl, trivial⟩ ?_
  refine j_aload_n (p2 := 7) dT_advance_6 rfl rfl ?_
  refine j_callV (m' := mT_keepComing) (As := []) (p2 := 10) dT_advance_7 rfl ml_T_86 ok_mT_keepComing im_mT_keepComing se_mT_keepComing rfl rfl (Nat.le_of_ble_eq_true rfl) ly_21 rfl (Nat.le_of_ble_eq_true rfl) ⟨(Nat.le_of_ble_eq_true rfl), (Nat.le_of_ble_eq_true rfl)⟩ ?_
  refine cTd_keepComing (r := T.1) (st := T.2.1) hx.2.1 hr hs hx.2.2.2.1 (fun c hcc => ?_)
  refine j_aload_n (p2 := 11) dT_advance_10 rfl rfl ?_
  refine j_getR (p2 := 14) dT_advance_11 rfl fa_T_18 ly_21 rfl ?_
  refine j_iconst (p2 := 15) dT_advance_14 rfl ?_
  refine j_aload_n (p2 := 16) dT_advance_15 rfl rfl ?_
  refine j_getR (p2 := 19) dT_advance_16 rfl fa_T_31 ly_21 rfl ?_
  refine j_iconst (p2 := 20) dT_advance_19 rfl ?_
  refine j_bipush (v := 20) (p2 := 22) dT_advance_20 rfl rfl ?_
  refine j_copyD (p2 := 25) dT_advance_22 rfl ml_T_89 (Nat.le_of_ble_eq_true rfl) (Nat.le_of_ble_eq_true rfl) ly_24 ly_28 (by decide) (by decide) (by decide) (by decide) ?_
  refine j_aload_n (p2 := 26) dT_advance_25 rfl rfl ?_
  refine j_aload_n (p2 := 27) dT_advance_26 rfl rfl ?_
  refine j_getR (p2 := 30) dT_advance_27 rfl fa_T_37 ly_21 rfl ?_
  refine j_callV (m' := mT_sumsInto) (As := [_]) (p2 := 33) dT_advance_30 rfl ml_T_95 ok_mT_sumsInto im_mT_sumsInto se_mT_sumsInto rfl rfl (Nat.le_of_ble_eq_true rfl) ly_21 rfl (Nat.le_of_ble_eq_true rfl) ⟨(Nat.le_of_ble_eq_true rfl), (Nat.le_of_ble_eq_true rfl)⟩ ?_
  have F1 : Fq [29, 28] σ (cD (wD σ 29 c) 24 28 20) := (Fq.rf.wD (by decide)).cD (by decide)
  have f1 : hD (cD (wD σ 29 c) 24 28 20) 29 = c := by
    funext q
    rw [hD_cD, if_neg (by omega)]
    rfl
  have f2 : ∀ q : Int, 0 ≤ q → q < 20 → hD (cD (wD σ 29 c) 24 28 20) 28 q = hD σ 24 q := fun q q0 q1 => by
    rw [hD_cD, if_pos ⟨rfl, q0, q1⟩]
    rfl
  generalize cD (wD σ 29 c) 24 28 20 = ω at F1 f1 f2 ⊢
  have w1 := cxd_mv (F1.weak (by decide)) hx
  have wr : Rdd ω T.1 N := by unfold Rdd at hr ⊢; rw [F1.D (c := 22) (by decide)]; exact hr
  refine cTd_sumsInto_k1 (r := T.1) w1.2.1 w1.2.2.1 wr (fun k hk => ?_)
  have H : Fq [30] ω (wD ω 30 k) := Fq.rf.wD (by decide)
  have hkk : hD (wD ω 30 k) 30 = k := rfl
  generalize wD ω 30 k = τ at H hkk ⊢
  have FF := (F1.weak (S2 := [29, 28, 30]) (by decide)).trans (H.weak (by decide))
  have e4 := FF.I (c := 4) (by decide)
  have e10 := F1.I (c := 10) (by decide)
  have e4w := F1.I (c := 4) (by decide)
  refine J.loc (lv' := [(0, _), (1, _), (3, _)]) ⟨rfl, rfl, rfl, trivial⟩ ?_
  rw [← hhalf]
  refine main τ (FF.weak (by decide)) (cxd_mv (FF.weak (by decide)) hx) ?_ ⟨FF.I (by decide), by rw [FF.I (c := 19) (by decide)]⟩ ?_ ?_ (fun m z w => ?_) (fun m z w kk => ?_) (fun m z w kk => ?_) ?_ (by rw [FF.I (c := 3) (by decide)])
  · unfold Lpd at hl ⊢; rw [FF.I (c := 20) (by decide), FF.I (c := 19) (by decide)]; exact hl
  · unfold Rdd at hr ⊢; rw [FF.D (c := 22) (by decide)]; exact hr
  · unfold Std at hs ⊢; rw [FF.D (c := 24) (by decide)]; exact hs
  · rw [H.D (c := 28) (by decide), f2 m z (by omega)]; exact hs m z w
  · rw [e4] at kk
    rw [hkk, hk m z w (by rw [e4w]; exact kk), e10]
    unfold gK
    rw [E5, E6]
    exact ⟨rfl, gra_mrD (fun i i0 i1 => (hx.2.1.2.2.2 m i z w i0 i1).2.1) (fun q q0 q1 => (hr q q0 q1).2)⟩
  · rw [e4] at kk
    rw [H.D (c := 29) (by decide), f1, hnx, E4, E5, E6]
    exact hcc m z w kk
  · unfold Sdd at hsd ⊢; rw [FF.I (c := 27) (by decide), e4]; exact hsd
theorem adf_2 {τ : Hp} {fr : Int → Int} {se : Int → UInt32} {nn : Int → Int} {row nx bf K1 : Int → UInt32} {h h2 : UInt32} {len half : UInt64} {L : List Int} {N : Nat} {P : Pt UInt32} {x : (Int → UInt32) × (Int → UInt32) × (Int → Bool)} {sd f : Int → Int} {t : Int} (F : Fq [35, 37, 38, 39, 40, 41, 42, 43, 44, 45, 46, 20] σ τ) (hx : Cxf τ fr se nn row L N P) (hl : Lpf τ N) (hlm : hI τ 20 = lms f t x.2.2 ∧ hI τ 19 1 = t) (hr : Rdf τ x.1 N) (hs : Stf τ x.2.1 N) (hb : Ahf τ bf N) (hK : Krf τ 43 K1 N) (hco : Cof τ nx N) (hsd : Sdf τ sd N) (hlen : len = cvF h) (hh : MhF h) (hlen2 : half = cvF h2) (hh2 : MhF h2) (hru : hI τ 3 1 = 2) (hfin : Finf σ fr se nn row nx L N P (gR2 arF P row h h2 bf K1 x) sd f t Q) : J mT_advance 33 [(0, vR 34), (1, vD len), (3, vD half)] [] τ Q := by
  unfold gR2 at hfin
  dsimp only at hfin
  refine j_aload_n (p2 := 34) dT_advance_33 rfl rfl ?_
  refine j_getR (p2 := 37) dT_advance_34 rfl fa_T_49 ly_34 rfl ?_
  refine j_getIk (p2 := 40) dT_advance_37 rfl fa_T_99 ly_3 rfl (ki := 1) rfl ?_
  refine j_if_ne (p2 := 43) (tg := 55) dT_advance_40 rfl (by decide) (by rw [hru]; decide) (fun h40 => ?_) (fun h40 => ?_)
  · refine j_aload_n (p2 := 56) dT_advance_55 rfl rfl ?_
    refine j_getR (p2 := 59) dT_advance_56 rfl fa_T_49 ly_34 rfl ?_
    refine j_getIk (p2 := 62) dT_advance_59 rfl fa_T_99 ly_3 rfl (ki := 1) rfl ?_
    refine j_iconst (p2 := 63) dT_advance_62 rfl ?_
    refine j_icmp_ne (p2 := 66) (tg := 95) dT_advance_63 rfl (by decide) (by rw [hru]; decide) (by decide) (fun h63 => ?_) (fun h63 => ?_)
    · refine j_aload_n (p2 := 96) dT_advance_95 rfl rfl ?_
      refine j_aload_n (p2 := 97) dT_advance_96 rfl rfl ?_
      refine j_getR (p2 := 100) dT_advance_97 rfl fa_T_37 ly_34 rfl ?_
      refine j_dload_n (p2 := 101) dT_advance_100 rfl rfl ?_
      refine j_aload_n (p2 := 102) dT_advance_101 rfl rfl ?_
      refine j_getR (p2 := 105) dT_advance_102 rfl fa_T_40 ly_34 rfl ?_
      refine j_callV (m' := mT_stage) (As := [_, _, _]) (p2 := 108) dT_advance_105 rfl ml_T_106 ok_mT_stage im_mT_stage se_mT_stage rfl rfl (Nat.le_of_ble_eq_true rfl) ly_34 rfl (Nat.le_of_ble_eq_true rfl) ⟨(Nat.le_of_ble_eq_true rfl), (Nat.le_of_ble_eq_true rfl)⟩ ?_
      refine cTf_stage1 (bf := bf) (K := K1) hx hl hlm hlen2 hh2 hr hs hb hK (fun ω G hx2 hl2 hlm2 hr2 hs2 hK2 => ?_)
      have g4 := G.I (c := 4) (by decide)
      obtain ⟨hco2, hsd2, hb2⟩ := ptf_mv (G.weak (by decide)) hco hsd hb
      have hK1 := krf_mv (G.D (c := 43) (by decide)) g4 hK
      generalize gPh arF P row h2 bf K1 x = y at hlm2 hr2 hs2 hK2 hfin
      have F2 := F.trans (G.weak (by decide))
      clear F hx hl hlm hr hs hb hK hco hsd hru g4 G
      refine j_aload_n (p2 := 109) dT_advance_108 rfl rfl ?_
      refine j_aload_n (p2 := 110) dT_advance_109 rfl rfl ?_
      refine j_getR (p2 := 113) dT_advance_110 rfl fa_T_40 ly_34 rfl ?_
      refine j_dload_n (p2 := 114) dT_advance_113 rfl rfl ?_
      refine j_aload_n (p2 := 115) dT_advance_114 rfl rfl ?_
      refine j_getR (p2 := 118) dT_advance_115 rfl fa_T_43 ly_34 rfl ?_
      refine j_callV (m' := mT_stage) (As := [_, _, _]) (p2 := 121) dT_advance_118 rfl ml_T_106 ok_mT_stage im_mT_stage se_mT_stage rfl rfl (Nat.le_of_ble_eq_true rfl) ly_34 rfl (Nat.le_of_ble_eq_true rfl) ⟨(Nat.le_of_ble_eq_true rfl), (Nat.le_of_ble_eq_true rfl)⟩ ?_
      refine cTf_stage2 (bf := bf) (K := gK arF P y.1) hx2 hl2 hlm2 hlen2 hh2 hr2 hs2 hb2 hK2 (fun ψ G hx3 hl3 hlm3 hr3 hs3 hK3 => ?_)
      have g4 := G.I (c := 4) (by decide)
      obtain ⟨hco3, hsd3, hb3⟩ := ptf_mv (G.weak (by decide)) hco2 hsd2 hb2
      have hK1b := krf_mv (G.D (c := 43) (by decide)) g4 hK1
      have hK2b := krf_mv (G.D (c := 44) (by decide)) g4 hK2
      generalize gPh arF P row h2 bf (gK arF P y.1) y = y3 at hlm3 hr3 hs3 hK3 hfin
      have F3 := F2.trans (G.weak (by decide))
      clear F2 hx2 hl2 hlm2 hr2 hs2 hb2 hK1 hK2 hco2 hsd2 g4 G
      refine j_aload_n (p2 := 122) dT_advance_121 rfl rfl ?_
      refine j_aload_n (p2 := 123) dT_advance_122 rfl rfl ?_
      refine j_getR (p2 := 126) dT_advance_123 rfl fa_T_43 ly_34 rfl ?_
      refine j_dload_n (p2 := 127) dT_advance_126 rfl rfl ?_
      refine j_aload_n (p2 := 128) dT_advance_127 rfl rfl ?_
      refine j_getR (p2 := 131) dT_advance_128 rfl fa_T_46 ly_34 rfl ?_
      refine j_callV (m' := mT_stage) (As := [_, _, _]) (p2 := 134) dT_advance_131 rfl ml_T_106 ok_mT_stage im_mT_stage se_mT_stage rfl rfl (Nat.le_of_ble_eq_true rfl) ly_34 rfl (Nat.le_of_ble_eq_true rfl) ⟨(Nat.le_of_ble_eq_true rfl), (Nat.le_of_ble_eq_true rfl)⟩ ?_
      refine cTf_stage3 (bf := bf) (K := gK arF P y3.1) hx3 hl3 hlm3 hlen hh hr3 hs3 hb3 hK3 (fun χ G hx4 hl4 hlm4 hr4 hs4 hK4 => ?_)
      have g4 := G.I (c := 4) (by decide)
      obtain ⟨hco4, hsd4, hb4⟩ := ptf_mv (G.weak (by decide)) hco3 hsd3 hb3
      have hK1c := krf_mv (G.D (c := 43) (by decide)) g4 hK1b
      have hK2c := krf_mv (G.D (c := 44) (by decide)) g4 hK2b
      have hK3c := krf_mv (G.D (c := 45) (by decide)) g4 hK3
      generalize gPh arF P row h bf (gK arF P y3.1) y3 = y4 at hlm4 hr4 hs4 hK4 hfin
      have F4 := F3.trans (G.weak (by decide))
      clear F3 hx3 hl3 hlm3 hr3 hs3 hb3 hK1b hK2b hK3 hco3 hsd3 g4 G
      refine j_aload_n (p2 := 135) dT_advance_134 rfl rfl ?_
      refine j_callV (m' := mT_weighIntoFirst) (As := []) (p2 := 138) dT_advance_135 rfl ml_T_113 ok_mT_weighIntoFirst im_mT_weighIntoFirst se_mT_weighIntoFirst rfl rfl (Nat.le_of_ble_eq_true rfl) ly_34 rfl (Nat.le_of_ble_eq_true rfl) ⟨(Nat.le_of_ble_eq_true rfl), (Nat.le_of_ble_eq_true rfl)⟩ ?_
      refine cTf_weighIntoFirst (K1 := K1) (K2 := gK arF P y.1) (K3 := gK arF P y3.1) (K4 := gK arF P y4.1) hx4.2.1 hx4.2.2.1 hK1c hK2c hK3c hK4 (fun a ha => ?_)
      have H : Fq [43] χ (wD χ 43 a) := Fq.rf.wD (by decide)
      have hk : hD (wD χ 43 a) 43 = a := rfl
      generalize wD χ 43 a = ψ5 at H hk ⊢
      have k4 := H.I (c := 4) (by decide)
      refine j_aload_n (p2 := 139) dT_advance_138 rfl rfl ?_
      refine j_aload_n (p2 := 140) dT_advance_139 rfl rfl ?_
      refine j_getR (p2 := 143) dT_advance_140 rfl fa_T_37 ly_34 rfl ?_
      refine j_dload_n (p2 := 144) dT_advance_143 rfl rfl ?_
      refine j_callV (m' := mT_moveStates) (As := [_, _]) (p2 := 147) dT_advance_144 rfl ml_T_102 ok_mT_moveStates im_mT_moveStates se_mT_moveStates rfl rfl (Nat.le_of_ble_eq_true rfl) ly_34 rfl (Nat.le_of_ble_eq_true rfl) ⟨(Nat.le_of_ble_eq_true rfl), (Nat.le_of_ble_eq_true rfl)⟩ ?_
      refine cTf_moveStates_k1 (st := y4.2.1) (bf := bf) (K := fun m => gwg arF (K1 m) (gK arF P y.1 m) (gK arF P y3.1 m) (gK arF P y4.1 m)) (cxf_mv (H.weak (by decide)) hx4).2.1 (cxf_mv (H.weak (by decide)) hx4).2.2.1 hlen hh ?_ ?_ (fun m z w k => ?_) ?_ (fun S hS => ?_)
      · unfold Stf at hs4; rw [H.D (c := 37) (by decide)]; exact hs4
      · unfold Ahf at hb4; rw [H.D (c := 41) (by decide)]; exact hb4
      · rw [k4] at k; rw [hk]; exact ⟨ha m z w k, (wgF (hK1c m z w k).2 (hK2c m z w k).2 (hK3c m z w k).2 (hK4 m z w k).2).2.2.2.2.2⟩
      · unfold Lpf at hl4; rw [H.I (c := 20) (by decide), H.I (c := 19) (by decide)]; exact hl4
      refine J.loc (lv' := [(0, _)]) ⟨rfl, trivial⟩ ?_
      obtain ⟨hco5, hsd5, _⟩ := ptf_mv (H.weak (by decide)) hco4 hsd4 hb4
      refine adf_mv (x := y4) (f := f) (t := t) (F4.trans (H.weak (by decide))) (cxf_mv (H.weak (by decide)) hx4) ?_ ?_ ?_ hco5 hsd5 hfin S hS
      · unfold Lpf at hl4 ⊢; rw [H.I (c := 20) (by decide), H.I (c := 19) (by decide)]; exact hl4
      · rw [H.I (c := 20) (by decide), H.I (c := 19) (by decide)]; exact hlm4
      · unfold Rdf at hr4 ⊢; rw [H.D (c := 35) (by decide)]; exact hr4
    · exfalso
      rw [hru] at h63
      exact absurd h63 (by decide)
  · exfalso
    omega
theorem cTf_advance {fr : Int → Int} {se : Int → UInt32} {nn : Int → Int} {L : List Int} {N : Nat} {P : Pt UInt32} {T : Ts UInt32} {h h2 : UInt32} {len : UInt64} (hx : Cxf σ fr se nn T.2.2.1 L N P) (hl : Lpf σ N) (hr : Rdf σ T.1 N) (hs : Stf σ T.2.1 N) (hsd : Sdf σ T.2.2.2 N) (hlen : len = cvF h) (hh : MhF h) (hlen2 : FP.dmul len 4602678819172646912 = cvF h2) (hh2 : MhF h2) (hru : 0 ≤ hI σ 3 1 ∧ hI σ 3 1 ≤ 2)
    (hQ : ∀ τ, Fq [35, 37, 38, 39, 40, 41, 42, 43, 44, 45, 46, 20] σ τ → Cxf τ fr se nn (gstep arF zcF P h h2 T).1.2.2.1 L N P → Rdf τ (gstep arF zcF P h h2 T).1.1 N → Stf τ (gstep arF zcF P h h2 T).1.2.1 N → Sdf τ (gstep arF zcF P h h2 T).1.2.2.2 N → Lpf τ N → hI τ 20 = lms (hI σ 20) (hI σ 19 1) (gstep arF zcF P h h2 T).2 ∧ hI τ 19 1 = hI σ 19 1 → Q none τ) : Sp mT_advance [vR 34, vD len] σ Q := by
  obtain ⟨E1, E2, E3, E4, E5, E6, E7, E8⟩ := cxf_E (row := T.2.2.1) (st := T.2.1) hx
  obtain ⟨half, hhalf⟩ : ∃ half, half = FP.dmul len 4602678819172646912 := ⟨_, rfl⟩
  have nh : vf_n64 (FP.dmul len 4602678819172646912) := by rw [hlen2]; exact cvF_nn (fn_nnF (mh_fnF hh2))
  have hhlf : half = cvF h2 := hhalf.trans hlen2
  obtain ⟨nx, hnx⟩ : ∃ nx, nx = gnx arF (pK P) (pFr P) (pTu P) T.1 T.2.1 := ⟨_, rfl⟩
  have hfin : Finf σ fr se nn T.2.2.1 nx L N P (gMid arF P T.2.2.1 h h2 T.1 T.2.1) T.2.2.2 (hI σ 20) (hI σ 19 1) Q := by
    intro st' row' sd' q e1 e2 e3 e4 τ F hx' hr' hs' hsd' hl' hlm'
    subst e4
    subst e1
    subst e2
    subst e3
    subst hnx
    exact hQ τ F hx' hr' hs' hsd' hl' hlm'
  clear hQ
  have main : ∀ τ, Fq [35, 37, 38, 39, 40, 41, 42, 43, 44, 45, 46, 20] σ τ → Cxf τ fr se nn T.2.2.1 L N P → Lpf τ N → hI τ 20 = hI σ 20 ∧ hI τ 19 1 = hI σ 19 1 → Rdf τ T.1 N → Stf τ T.2.1 N → Ahf τ T.2.1 N → Krf τ 43 (gK arF P T.1) N → Cof τ nx N → Sdf τ T.2.2.2 N → hI τ 3 1 = hI σ 3 1 → J mT_advance 33 [(0, vR 34), (1, vD len), (3, vD half)] [] τ Q := by
    intro τ F hx2 hl2 hlm2 hr2 hs2 hb2 hK2 hco2 hsd2 hru2
    have hlm3 : hI τ 20 = lms (hI σ 20) (hI σ 19 1) (fun _ => false) ∧ hI τ 19 1 = hI σ 19 1 := ⟨by rw [lms_0]; exact hlm2.1, hlm2.2⟩
    unfold gMid at hfin
    rw [E8] at hfin
    rcases (by omega : hI σ 3 1 = 0 ∨ hI σ 3 1 = 1 ∨ hI σ 3 1 = 2) with g | g | g
    · rw [if_pos g] at hfin
      exact adf_0 (h2 := h2) (x := (T.1, T.2.1, fun _ => false)) F hx2 hl2 hlm3 hr2 hs2 hb2 hK2 hco2 hsd2 hlen hh (hru2.trans g) hfin
    · rw [if_neg (by omega), if_pos g] at hfin
      exact adf_1 (x := (T.1, T.2.1, fun _ => false)) F hx2 hl2 hlm3 hr2 hs2 hb2 hK2 hco2 hsd2 hlen hh hhlf hh2 (hru2.trans g) hfin
    · rw [if_neg (by omega), if_neg (by omega)] at hfin
      exact adf_2 (x := (T.1, T.2.1, fun _ => false)) F hx2 hl2 hlm3 hr2 hs2 hb2 hK2 hco2 hsd2 hlen hh hhlf hh2 (hru2.trans g) hfin
  clear hfin
  have hN2 := hx.2.1.2.1
  refine j_dload_n (p2 := 1) dT_advance_0 rfl rfl ?_
  refine j_ldc2d (p2 := 4) dT_advance_1 rfl cw_T_84 ?_
  refine j_dmul (p2 := 5) dT_advance_4 rfl nh ?_
  refine j_dstore_n (p2 := 6) (lv' := [(0, _), (1, _), (3, _)]) dT_advance_5 rfl (Nat.le_of_ble_eq_true rfl) ⟨rfl, rfl, rfl, trivial⟩ ?_
  refine j_aload_n (p2 := 7) dT_advance_6 rfl rfl ?_
  refine j_callV (m' := mT_keepComing) (As := []) (p2 := 10) dT_advance_7 rfl ml_T_86 ok_mT_keepComing im_mT_keepComing se_mT_keepComing rfl rfl (Nat.le_of_ble_eq_true rfl) ly_34 rfl (Nat.le_of_ble_eq_true rfl) ⟨(Nat.le_of_ble_eq_true rfl), (Nat.le_of_ble_eq_true rfl)⟩ ?_
  refine cTf_keepComing (r := T.1) (st := T.2.1) hx.2.1 hr hs hx.2.2.2.1 (fun c hcc => ?_)
  refine j_aload_n (p2 := 11) dT_advance_10 rfl rfl ?_
  refine j_getR (p2 := 14) dT_advance_11 rfl fa_T_18 ly_34 rfl ?_
  refine j_iconst (p2 := 15) dT_advance_14 rfl ?_
  refine j_aload_n (p2 := 16) dT_advance_15 rfl rfl ?_
  refine j_getR (p2 := 19) dT_advance_16 rfl fa_T_31 ly_34 rfl ?_
  refine j_iconst (p2 := 20) dT_advance_19 rfl ?_
  refine j_bipush (v := 20) (p2 := 22) dT_advance_20 rfl rfl ?_
  refine j_copyD (p2 := 25) dT_advance_22 rfl ml_T_89 (Nat.le_of_ble_eq_true rfl) (Nat.le_of_ble_eq_true rfl) ly_37 ly_41 (by decide) (by decide) (by decide) (by decide) ?_
  refine j_aload_n (p2 := 26) dT_advance_25 rfl rfl ?_
  refine j_aload_n (p2 := 27) dT_advance_26 rfl rfl ?_
  refine j_getR (p2 := 30) dT_advance_27 rfl fa_T_37 ly_34 rfl ?_
  refine j_callV (m' := mT_sumsInto) (As := [_]) (p2 := 33) dT_advance_30 rfl ml_T_95 ok_mT_sumsInto im_mT_sumsInto se_mT_sumsInto rfl rfl (Nat.le_of_ble_eq_true rfl) ly_34 rfl (Nat.le_of_ble_eq_true rfl) ⟨(Nat.le_of_ble_eq_true rfl), (Nat.le_of_ble_eq_true rfl)⟩ ?_
  have F1 : Fq [42, 41] σ (cD (wD σ 42 c) 37 41 20) := (Fq.rf.wD (by decide)).cD (by decide)
  have f1 : hD (cD (wD σ 42 c) 37 41 20) 42 = c := by
    funext q
    rw [hD_cD, if_neg (by omega)]
    rfl
  have f2 : ∀ q : Int, 0 ≤ q → q < 20 → hD (cD (wD σ 42 c) 37 41 20) 41 q = hD σ 37 q := fun q q0 q1 => by
    rw [hD_cD, if_pos ⟨rfl, q0, q1⟩]
    rfl
  generalize cD (wD σ 42 c) 37 41 20 = ω at F1 f1 f2 ⊢
  have w1 := cxf_mv (F1.weak (by decide)) hx
  have wr : Rdf ω T.1 N := by unfold Rdf at hr ⊢; rw [F1.D (c := 35) (by decide)]; exact hr
  refine cTf_sumsInto_k1 (r := T.1) w1.2.1 w1.2.2.1 wr (fun k hk => ?_)
  have H : Fq [43] ω (wD ω 43 k) := Fq.rf.wD (by decide)
  have hkk : hD (wD ω 43 k) 43 = k := rfl
  generalize wD ω 43 k = τ at H hkk ⊢
  have FF := (F1.weak (S2 := [42, 41, 43]) (by decide)).trans (H.weak (by decide))
  have e4 := FF.I (c := 4) (by decide)
  have e10 := F1.I (c := 10) (by decide)
  have e4w := F1.I (c := 4) (by decide)
  refine J.loc (lv' := [(0, _), (1, _), (3, _)]) ⟨rfl, rfl, rfl, trivial⟩ ?_
  rw [← hhalf]
  refine main τ (FF.weak (by decide)) (cxf_mv (FF.weak (by decide)) hx) ?_ ⟨FF.I (by decide), by rw [FF.I (c := 19) (by decide)]⟩ ?_ ?_ (fun m z w => ?_) (fun m z w kk => ?_) (fun m z w kk => ?_) ?_ (by rw [FF.I (c := 3) (by decide)])
  · unfold Lpf at hl ⊢; rw [FF.I (c := 20) (by decide), FF.I (c := 19) (by decide)]; exact hl
  · unfold Rdf at hr ⊢; rw [FF.D (c := 35) (by decide)]; exact hr
  · unfold Stf at hs ⊢; rw [FF.D (c := 37) (by decide)]; exact hs
  · rw [H.D (c := 41) (by decide), f2 m z (by omega)]; exact hs m z w
  · rw [e4] at kk
    rw [hkk, hk m z w (by rw [e4w]; exact kk), e10]
    unfold gK
    rw [E5, E6]
    exact ⟨rfl, gra_mrF (fun i i0 i1 => (hx.2.1.2.2.2 m i z w i0 i1).2.1) (fun q q0 q1 => (hr q q0 q1).2)⟩
  · rw [e4] at kk
    rw [H.D (c := 42) (by decide), f1, hnx, E4, E5, E6]
    exact hcc m z w kk
  · unfold Sdf at hsd ⊢; rw [FF.I (c := 40) (by decide), e4]; exact hsd
theorem adt_2 {τ : Hp} {fr : Int → Int} {se : Int → UInt64} {nn : Int → Int} {row nx bf K1 : Int → UInt64} {h h2 : UInt64} {len half : UInt64} {L : List Int} {N : Nat} {P : Pt UInt64} {x : (Int → UInt64) × (Int → UInt64) × (Int → Bool)} {sd f : Int → Int} {t : Int} (F : Fq [57, 59, 60, 61, 62, 63, 64, 65, 66, 67, 68, 55] σ τ) (hx : Cxt τ fr se nn row L N P) (hl : Lpt τ N) (hlm : hI τ 55 = lms f t x.2.2 ∧ hI τ 54 1 = t) (hr : Rdt τ x.1 N) (hs : Stt τ x.2.1 N) (hb : Aht τ bf N) (hK : Krt τ 65 K1 N) (hco : Cot τ nx N) (hsd : Sdt τ sd N) (hlen : len = cvD h) (hh : MhD h) (hlen2 : half = cvD h2) (hh2 : MhD h2) (hru : hI τ 3 1 = 2) (hfin : Fint σ fr se nn row nx L N P (gR2 arD P row h h2 bf K1 x) sd f t Q) : J mT_advance 33 [(0, vR 56), (1, vD len), (3, vD half)] [] τ Q := by
  unfold gR2 at hfin
  dsimp only at hfin
  refine j_aload_n (p2 := 34) dT_advance_33 rfl rfl ?_
  refine j_getR (p2 := 37) dT_advance_34 rfl fa_T_49 ly_56 rfl ?_
  refine j_getIk (p2 := 40) dT_advance_37 rfl fa_T_99 ly_3 rfl (ki := 1) rfl ?_
  refine j_if_ne (p2 := 43) (tg := 55) dT_advance_40 rfl (by decide) (by rw [hru]; decide) (fun h40 => ?_) (fun h40 => ?_)
  · refine j_aload_n (p2 := 56) dT_advance_55 rfl rfl ?_
    refine j_getR (p2 := 59) dT_advance_56 rfl fa_T_49 ly_56 rfl ?_
    refine j_getIk (p2 := 62) dT_advance_59 rfl fa_T_99 ly_3 rfl (ki := 1) rfl ?_
    refine j_iconst (p2 := 63) dT_advance_62 rfl ?_
    refine j_icmp_ne (p2 := 66) (tg := 95) dT_advance_63 rfl (by decide) (by rw [hru]; decide) (by decide) (fun h63 => ?_) (fun h63 => ?_)
    · refine j_aload_n (p2 := 96) dT_advance_95 rfl rfl ?_
      refine j_aload_n (p2 := 97) dT_advance_96 rfl rfl ?_
      refine j_getR (p2 := 100) dT_advance_97 rfl fa_T_37 ly_56 rfl ?_
      refine j_dload_n (p2 := 101) dT_advance_100 rfl rfl ?_
      refine j_aload_n (p2 := 102) dT_advance_101 rfl rfl ?_
      refine j_getR (p2 := 105) dT_advance_102 rfl fa_T_40 ly_56 rfl ?_
      refine j_callV (m' := mT_stage) (As := [_, _, _]) (p2 := 108) dT_advance_105 rfl ml_T_106 ok_mT_stage im_mT_stage se_mT_stage rfl rfl (Nat.le_of_ble_eq_true rfl) ly_56 rfl (Nat.le_of_ble_eq_true rfl) ⟨(Nat.le_of_ble_eq_true rfl), (Nat.le_of_ble_eq_true rfl)⟩ ?_
      refine cTt_stage1 (bf := bf) (K := K1) hx hl hlm hlen2 hh2 hr hs hb hK (fun ω G hx2 hl2 hlm2 hr2 hs2 hK2 => ?_)
      have g4 := G.I (c := 4) (by decide)
      obtain ⟨hco2, hsd2, hb2⟩ := ptt_mv (G.weak (by decide)) hco hsd hb
      have hK1 := krt_mv (G.D (c := 65) (by decide)) g4 hK
      generalize gPh arD P row h2 bf K1 x = y at hlm2 hr2 hs2 hK2 hfin
      have F2 := F.trans (G.weak (by decide))
      clear F hx hl hlm hr hs hb hK hco hsd hru g4 G
      refine j_aload_n (p2 := 109) dT_advance_108 rfl rfl ?_
      refine j_aload_n (p2 := 110) dT_advance_109 rfl rfl ?_
      refine j_getR (p2 := 113) dT_advance_110 rfl fa_T_40 ly_56 rfl ?_
      refine j_dload_n (p2 := 114) dT_advance_113 rfl rfl ?_
      refine j_aload_n (p2 := 115) dT_advance_114 rfl rfl ?_
      refine j_getR (p2 := 118) dT_advance_115 rfl fa_T_43 ly_56 rfl ?_
      refine j_callV (m' := mT_stage) (As := [_, _, _]) (p2 := 121) dT_advance_118 rfl ml_T_106 ok_mT_stage im_mT_stage se_mT_stage rfl rfl (Nat.le_of_ble_eq_true rfl) ly_56 rfl (Nat.le_of_ble_eq_true rfl) ⟨(Nat.le_of_ble_eq_true rfl), (Nat.le_of_ble_eq_true rfl)⟩ ?_
      refine cTt_stage2 (bf := bf) (K := gK arD P y.1) hx2 hl2 hlm2 hlen2 hh2 hr2 hs2 hb2 hK2 (fun ψ G hx3 hl3 hlm3 hr3 hs3 hK3 => ?_)
      have g4 := G.I (c := 4) (by decide)
      obtain ⟨hco3, hsd3, hb3⟩ := ptt_mv (G.weak (by decide)) hco2 hsd2 hb2
      have hK1b := krt_mv (G.D (c := 65) (by decide)) g4 hK1
      have hK2b := krt_mv (G.D (c := 66) (by decide)) g4 hK2
      generalize gPh arD P row h2 bf (gK arD P y.1) y = y3 at hlm3 hr3 hs3 hK3 hfin
      have F3 := F2.trans (G.weak (by decide))
      clear F2 hx2 hl2 hlm2 hr2 hs2 hb2 hK1 hK2 hco2 hsd2 g4 G
      refine j_aload_n (p2 := 122) dT_advance_121 rfl rfl ?_
      refine j_aload_n (p2 := 123) dT_advance_122 rfl rfl ?_
      refine j_getR (p2 := 126) dT_advance_123 rfl fa_T_43 ly_56 rfl ?_
      refine j_dload_n (p2 := 127) dT_advance_126 rfl rfl ?_
      refine j_aload_n (p2 := 128) dT_advance_127 rfl rfl ?_
      refine j_getR (p2 := 131) dT_advance_128 rfl fa_T_46 ly_56 rfl ?_
      refine j_callV (m' := mT_stage) (As := [_, _, _]) (p2 := 134) dT_advance_131 rfl ml_T_106 ok_mT_stage im_mT_stage se_mT_stage rfl rfl (Nat.le_of_ble_eq_true rfl) ly_56 rfl (Nat.le_of_ble_eq_true rfl) ⟨(Nat.le_of_ble_eq_true rfl), (Nat.le_of_ble_eq_true rfl)⟩ ?_
      refine cTt_stage3 (bf := bf) (K := gK arD P y3.1) hx3 hl3 hlm3 hlen hh hr3 hs3 hb3 hK3 (fun χ G hx4 hl4 hlm4 hr4 hs4 hK4 => ?_)
      have g4 := G.I (c := 4) (by decide)
      obtain ⟨hco4, hsd4, hb4⟩ := ptt_mv (G.weak (by decide)) hco3 hsd3 hb3
      have hK1c := krt_mv (G.D (c := 65) (by decide)) g4 hK1b
      have hK2c := krt_mv (G.D (c := 66) (by decide)) g4 hK2b
      have hK3c := krt_mv (G.D (c := 67) (by decide)) g4 hK3
      generalize gPh arD P row h bf (gK arD P y3.1) y3 = y4 at hlm4 hr4 hs4 hK4 hfin
      have F4 := F3.trans (G.weak (by decide))
      clear F3 hx3 hl3 hlm3 hr3 hs3 hb3 hK1b hK2b hK3 hco3 hsd3 g4 G
      refine j_aload_n (p2 := 135) dT_advance_134 rfl rfl ?_
      refine j_callV (m' := mT_weighIntoFirst) (As := []) (p2 := 138) dT_advance_135 rfl ml_T_113 ok_mT_weighIntoFirst im_mT_weighIntoFirst se_mT_weighIntoFirst rfl rfl (Nat.le_of_ble_eq_true rfl) ly_56 rfl (Nat.le_of_ble_eq_true rfl) ⟨(Nat.le_of_ble_eq_true rfl), (Nat.le_of_ble_eq_true rfl)⟩ ?_
      refine cTt_weighIntoFirst (K1 := K1) (K2 := gK arD P y.1) (K3 := gK arD P y3.1) (K4 := gK arD P y4.1) hx4.2.1 hx4.2.2.1 hK1c hK2c hK3c hK4 (fun a ha => ?_)
      have H : Fq [65] χ (wD χ 65 a) := Fq.rf.wD (by decide)
      have hk : hD (wD χ 65 a) 65 = a := rfl
      generalize wD χ 65 a = ψ5 at H hk ⊢
      have k4 := H.I (c := 4) (by decide)
      refine j_aload_n (p2 := 139) dT_advance_138 rfl rfl ?_
      refine j_aload_n (p2 := 140) dT_advance_139 rfl rfl ?_
      refine j_getR (p2 := 143) dT_advance_140 rfl fa_T_37 ly_56 rfl ?_
      refine j_dload_n (p2 := 144) dT_advance_143 rfl rfl ?_
      refine j_callV (m' := mT_moveStates) (As := [_, _]) (p2 := 147) dT_advance_144 rfl ml_T_102 ok_mT_moveStates im_mT_moveStates se_mT_moveStates rfl rfl (Nat.le_of_ble_eq_true rfl) ly_56 rfl (Nat.le_of_ble_eq_true rfl) ⟨(Nat.le_of_ble_eq_true rfl), (Nat.le_of_ble_eq_true rfl)⟩ ?_
      refine cTt_moveStates_k1 (st := y4.2.1) (bf := bf) (K := fun m => gwg arD (K1 m) (gK arD P y.1 m) (gK arD P y3.1 m) (gK arD P y4.1 m)) (cxt_mv (H.weak (by decide)) hx4).2.1 (cxt_mv (H.weak (by decide)) hx4).2.2.1 hlen hh ?_ ?_ (fun m z w k => ?_) ?_ (fun S hS => ?_)
      · unfold Stt at hs4; rw [H.D (c := 59) (by decide)]; exact hs4
      · unfold Aht at hb4; rw [H.D (c := 63) (by decide)]; exact hb4
      · rw [k4] at k; rw [hk]; exact ⟨ha m z w k, (wgD (hK1c m z w k).2 (hK2c m z w k).2 (hK3c m z w k).2 (hK4 m z w k).2).2.2.2.2.2⟩
      · unfold Lpt at hl4; rw [H.I (c := 55) (by decide), H.I (c := 54) (by decide)]; exact hl4
      refine J.loc (lv' := [(0, _)]) ⟨rfl, trivial⟩ ?_
      obtain ⟨hco5, hsd5, _⟩ := ptt_mv (H.weak (by decide)) hco4 hsd4 hb4
      refine adt_mv (x := y4) (f := f) (t := t) (F4.trans (H.weak (by decide))) (cxt_mv (H.weak (by decide)) hx4) ?_ ?_ ?_ hco5 hsd5 hfin S hS
      · unfold Lpt at hl4 ⊢; rw [H.I (c := 55) (by decide), H.I (c := 54) (by decide)]; exact hl4
      · rw [H.I (c := 55) (by decide), H.I (c := 54) (by decide)]; exact hlm4
      · unfold Rdt at hr4 ⊢; rw [H.D (c := 57) (by decide)]; exact hr4
    · exfalso
      rw [hru] at h63
      exact absurd h63 (by decide)
  · exfalso
    omega
theorem cTt_advance {fr : Int → Int} {se : Int → UInt64} {nn : Int → Int} {L : List Int} {N : Nat} {P : Pt UInt64} {T : Ts UInt64} {h h2 : UInt64} {len : UInt64} (hx : Cxt σ fr se nn T.2.2.1 L N P) (hl : Lpt σ N) (hr : Rdt σ T.1 N) (hs : Stt σ T.2.1 N) (hsd : Sdt σ T.2.2.2 N) (hlen : len = cvD h) (hh : MhD h) (hlen2 : FP.dmul len 4602678819172646912 = cvD h2) (hh2 : MhD h2) (hru : 0 ≤ hI σ 3 1 ∧ hI σ 3 1 ≤ 2)
    (hQ : ∀ τ, Fq [57, 59, 60, 61, 62, 63, 64, 65, 66, 67, 68, 55] σ τ → Cxt τ fr se nn (gstep arD zcD P h h2 T).1.2.2.1 L N P → Rdt τ (gstep arD zcD P h h2 T).1.1 N → Stt τ (gstep arD zcD P h h2 T).1.2.1 N → Sdt τ (gstep arD zcD P h h2 T).1.2.2.2 N → Lpt τ N → hI τ 55 = lms (hI σ 55) (hI σ 54 1) (gstep arD zcD P h h2 T).2 ∧ hI τ 54 1 = hI σ 54 1 → Q none τ) : Sp mT_advance [vR 56, vD len] σ Q := by
  obtain ⟨E1, E2, E3, E4, E5, E6, E7, E8⟩ := cxt_E (row := T.2.2.1) (st := T.2.1) hx
  obtain ⟨half, hhalf⟩ : ∃ half, half = FP.dmul len 4602678819172646912 := ⟨_, rfl⟩
  have nh : vf_n64 (FP.dmul len 4602678819172646912) := by rw [hlen2]; exact cvD_nn (fn_nnD (mh_fnD hh2))
  have hhlf : half = cvD h2 := hhalf.trans hlen2
  obtain ⟨nx, hnx⟩ : ∃ nx, nx = gnx arD (pK P) (pFr P) (pTu P) T.1 T.2.1 := ⟨_, rfl⟩
  have hfin : Fint σ fr se nn T.2.2.1 nx L N P (gMid arD P T.2.2.1 h h2 T.1 T.2.1) T.2.2.2 (hI σ 55) (hI σ 54 1) Q := by
    intro st' row' sd' q e1 e2 e3 e4 τ F hx' hr' hs' hsd' hl' hlm'
    subst e4
    subst e1
    subst e2
    subst e3
    subst hnx
    exact hQ τ F hx' hr' hs' hsd' hl' hlm'
  clear hQ
  have main : ∀ τ, Fq [57, 59, 60, 61, 62, 63, 64, 65, 66, 67, 68, 55] σ τ → Cxt τ fr se nn T.2.2.1 L N P → Lpt τ N → hI τ 55 = hI σ 55 ∧ hI τ 54 1 = hI σ 54 1 → Rdt τ T.1 N → Stt τ T.2.1 N → Aht τ T.2.1 N → Krt τ 65 (gK arD P T.1) N → Cot τ nx N → Sdt τ T.2.2.2 N → hI τ 3 1 = hI σ 3 1 → J mT_advance 33 [(0, vR 56), (1, vD len), (3, vD half)] [] τ Q := by
    intro τ F hx2 hl2 hlm2 hr2 hs2 hb2 hK2 hco2 hsd2 hru2
    have hlm3 : hI τ 55 = lms (hI σ 55) (hI σ 54 1) (fun _ => false) ∧ hI τ 54 1 = hI σ 54 1 := ⟨by rw [lms_0]; exact hlm2.1, hlm2.2⟩
    unfold gMid at hfin
    rw [E8] at hfin
    rcases (by omega : hI σ 3 1 = 0 ∨ hI σ 3 1 = 1 ∨ hI σ 3 1 = 2) with g | g | g
    · rw [if_pos g] at hfin
      exact adt_0 (h2 := h2) (x := (T.1, T.2.1, fun _ => false)) F hx2 hl2 hlm3 hr2 hs2 hb2 hK2 hco2 hsd2 hlen hh (hru2.trans g) hfin
    · rw [if_neg (by omega), if_pos g] at hfin
      exact adt_1 (x := (T.1, T.2.1, fun _ => false)) F hx2 hl2 hlm3 hr2 hs2 hb2 hK2 hco2 hsd2 hlen hh hhlf hh2 (hru2.trans g) hfin
    · rw [if_neg (by omega), if_neg (by omega)] at hfin
      exact adt_2 (x := (T.1, T.2.1, fun _ => false)) F hx2 hl2 hlm3 hr2 hs2 hb2 hK2 hco2 hsd2 hlen hh hhlf hh2 (hru2.trans g) hfin
  clear hfin
  have hN2 := hx.2.1.2.1
  refine j_dload_n (p2 := 1) dT_advance_0 rfl rfl ?_
  refine j_ldc2d (p2 := 4) dT_advance_1 rfl cw_T_84 ?_
  refine j_dmul (p2 := 5) dT_advance_4 rfl nh ?_
  refine j_dstore_n (p2 := 6) (lv' := [(0, _), (1, _), (3, _)]) dT_advance_5 rfl (Nat.le_of_ble_eq_true rfl) ⟨rfl, rfl, rfl, trivial⟩ ?_
  refine j_aload_n (p2 := 7) dT_advance_6 rfl rfl ?_
  refine j_callV (m' := mT_keepComing) (As := []) (p2 := 10) dT_advance_7 rfl ml_T_86 ok_mT_keepComing im_mT_keepComing se_mT_keepComing rfl rfl (Nat.le_of_ble_eq_true rfl) ly_56 rfl (Nat.le_of_ble_eq_true rfl) ⟨(Nat.le_of_ble_eq_true rfl), (Nat.le_of_ble_eq_true rfl)⟩ ?_
  refine cTt_keepComing (r := T.1) (st := T.2.1) hx.2.1 hr hs hx.2.2.2.1 (fun c hcc => ?_)
  refine j_aload_n (p2 := 11) dT_advance_10 rfl rfl ?_
  refine j_getR (p2 := 14) dT_advance_11 rfl fa_T_18 ly_56 rfl ?_
  refine j_iconst (p2 := 15) dT_advance_14 rfl ?_
  refine j_aload_n (p2 := 16) dT_advance_15 rfl rfl ?_
  refine j_getR (p2 := 19) dT_advance_16 rfl fa_T_31 ly_56 rfl ?_
  refine j_iconst (p2 := 20) dT_advance_19 rfl ?_
  refine j_bipush (v := 20) (p2 := 22) dT_advance_20 rfl rfl ?_
  refine j_copyD (p2 := 25) dT_advance_22 rfl ml_T_89 (Nat.le_of_ble_eq_true rfl) (Nat.le_of_ble_eq_true rfl) ly_59 ly_63 (by decide) (by decide) (by decide) (by decide) ?_
  refine j_aload_n (p2 := 26) dT_advance_25 rfl rfl ?_
  refine j_aload_n (p2 := 27) dT_advance_26 rfl rfl ?_
  refine j_getR (p2 := 30) dT_advance_27 rfl fa_T_37 ly_56 rfl ?_
  refine j_callV (m' := mT_sumsInto) (As := [_]) (p2 := 33) dT_advance_30 rfl ml_T_95 ok_mT_sumsInto im_mT_sumsInto se_mT_sumsInto rfl rfl (Nat.le_of_ble_eq_true rfl) ly_56 rfl (Nat.le_of_ble_eq_true rfl) ⟨(Nat.le_of_ble_eq_true rfl), (Nat.le_of_ble_eq_true rfl)⟩ ?_
  have F1 : Fq [64, 63] σ (cD (wD σ 64 c) 59 63 20) := (Fq.rf.wD (by decide)).cD (by decide)
  have f1 : hD (cD (wD σ 64 c) 59 63 20) 64 = c := by
    funext q
    rw [hD_cD, if_neg (by omega)]
    rfl
  have f2 : ∀ q : Int, 0 ≤ q → q < 20 → hD (cD (wD σ 64 c) 59 63 20) 63 q = hD σ 59 q := fun q q0 q1 => by
    rw [hD_cD, if_pos ⟨rfl, q0, q1⟩]
    rfl
  generalize cD (wD σ 64 c) 59 63 20 = ω at F1 f1 f2 ⊢
  have w1 := cxt_mv (F1.weak (by decide)) hx
  have wr : Rdt ω T.1 N := by unfold Rdt at hr ⊢; rw [F1.D (c := 57) (by decide)]; exact hr
  refine cTt_sumsInto_k1 (r := T.1) w1.2.1 w1.2.2.1 wr (fun k hk => ?_)
  have H : Fq [65] ω (wD ω 65 k) := Fq.rf.wD (by decide)
  have hkk : hD (wD ω 65 k) 65 = k := rfl
  generalize wD ω 65 k = τ at H hkk ⊢
  have FF := (F1.weak (S2 := [64, 63, 65]) (by decide)).trans (H.weak (by decide))
  have e4 := FF.I (c := 4) (by decide)
  have e10 := F1.I (c := 10) (by decide)
  have e4w := F1.I (c := 4) (by decide)
  refine J.loc (lv' := [(0, _), (1, _), (3, _)]) ⟨rfl, rfl, rfl, trivial⟩ ?_
  rw [← hhalf]
  refine main τ (FF.weak (by decide)) (cxt_mv (FF.weak (by decide)) hx) ?_ ⟨FF.I (by decide), by rw [FF.I (c := 54) (by decide)]⟩ ?_ ?_ (fun m z w => ?_) (fun m z w kk => ?_) (fun m z w kk => ?_) ?_ (by rw [FF.I (c := 3) (by decide)])
  · unfold Lpt at hl ⊢; rw [FF.I (c := 55) (by decide), FF.I (c := 54) (by decide)]; exact hl
  · unfold Rdt at hr ⊢; rw [FF.D (c := 57) (by decide)]; exact hr
  · unfold Stt at hs ⊢; rw [FF.D (c := 59) (by decide)]; exact hs
  · rw [H.D (c := 63) (by decide), f2 m z (by omega)]; exact hs m z w
  · rw [e4] at kk
    rw [hkk, hk m z w (by rw [e4w]; exact kk), e10]
    unfold gK
    rw [E5, E6]
    exact ⟨rfl, gra_mrD (fun i i0 i1 => (hx.2.1.2.2.2 m i z w i0 i1).2.1) (fun q q0 q1 => (hr q q0 q1).2)⟩
  · rw [e4] at kk
    rw [H.D (c := 64) (by decide), f1, hnx, E4, E5, E6]
    exact hcc m z w kk
  · unfold Sdt at hsd ⊢; rw [FF.I (c := 62) (by decide), e4]; exact hsd
end TWC12
