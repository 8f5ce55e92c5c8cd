/-! ===== the class's greatest gap ===== -/
/-- the greatest gap of the first n -/
def ggp (W H : Nat → UInt64) : Nat → UInt64
  | 0 => FP.dconst0
  | j + 1 => if FP.dcmp (szD (FP.dsub (W j) (H j))) (ggp W H j) = some .gt then szD (FP.dsub (W j) (H j)) else ggp W H j
section TRI2
variable {σ : Hp} {Q : Option PV → Hp → Prop}
abbrev TrC2 : List Nat := [57, 58, 59, 60, 61, 62, 63, 64, 65, 66, 67, 68, 55, 53]
theorem cR_greatestGap {fr : Int → Int} {nn : Int → Int} {r : Int → UInt64} {L : List Int} {N : Nat} {q : Int} {n k : Nat} (hT : Tri σ fr (-1) FP.dconst0 nn L N) (hl : L20 σ) (hr : Rdt σ r N) (hk : hI σ 3 2 = k ∧ 0 < k ∧ k ≤ 28) (hru : 0 ≤ hI σ 3 1 ∧ hI σ 3 1 ≤ 2) (hq : 0 ≤ q ∧ q < N) (hn : n ≤ 20)
    (hQ : ∀ P r2 W H, P = Pct σ fr (svC σ (-1) FP.dconst0) nn L N → W = (fun j : Nat => (gsn arD zcD P (lenD k) (lenD (k + 1)) (gT0 (hD σ 8) (svC σ (-1) FP.dconst0) P r) (j + 1)).1 q) → H = (fun j : Nat => (gsn arD zcD P (lenD (k + 1)) (lenD (k + 2)) (gT0 (hD σ 8) (svC σ (-1) FP.dconst0) P r2) (2 * (j + 1))).1 q) → (∀ j : Nat, j < n → BdD (W j) ∧ BdD (H j)) → ∀ τ r3, Fq TrC2 σ τ → Rdt τ r3 N → L20 τ → Q (some (vD (ggp W H n))) τ) : Sp mR_greatestGap [vR 51, vI q, vI n] σ Q := by
  have hT0 := hT
  obtain ⟨a1, a2, a3, a4, a5, a6⟩ := hT
  have hN2 := a1.2.1
  obtain ⟨P, hP⟩ : ∃ P, P = Pct σ fr (svC σ (-1) FP.dconst0) nn L N := ⟨_, rfl⟩
  obtain ⟨W, hW⟩ : ∃ W, W = (fun j : Nat => (gsn arD zcD P (lenD k) (lenD (k + 1)) (gT0 (hD σ 8) (svC σ (-1) FP.dconst0) P r) (j + 1)).1 q) := ⟨_, rfl⟩
  have loop2 : ∀ r2 H, H = (fun j : Nat => (gsn arD zcD P (lenD (k + 1)) (lenD (k + 2)) (gT0 (hD σ 8) (svC σ (-1) FP.dconst0) P r2) (2 * (j + 1))).1 q) → ∀ (f i : Nat), i ≤ n → n + 1 ≤ i + f → ∀ τ T, T = gsn arD zcD P (lenD (k + 1)) (lenD (k + 2)) (gT0 (hD σ 8) (svC σ (-1) FP.dconst0) P r2) (2 * i) → Fq TrC2 σ τ → (∀ j : Nat, j < n → hD τ 53 j = W j ∧ BdD (W j)) → (∀ j : Nat, j < i → BdD (H j)) → Cxt τ fr (svC σ (-1) FP.dconst0) nn T.2.2.1 L N P → Rdt τ T.1 N → Stt τ T.2.1 N → Sdt τ T.2.2.2 N → L20 τ → J mR_greatestGap 74 [(0, vR 51), (1, vI q), (2, vI n), (3, vD (lenD k)), (5, vD (ggp W H i)), (7, vI i)] [] τ Q := by
    intro r2 H hH f
    induction f with
    | zero => intro i h1 h2; exact absurd h2 (by omega)
    | succ f ih =>
      intro i h1 h2 τ T eT F w53 bHs c1 c2 c3 c4 c5
      have hru2 : 0 ≤ hI τ 3 1 ∧ hI τ 3 1 ≤ 2 := by rw [F.I (by decide)]; exact hru
      have hfin : i = n → Q (some (vD (ggp W H i))) τ := fun e => by subst e; exact hQ P r2 W H hP hW hH (fun j hj => ⟨(w53 j hj).2, bHs j hj⟩) τ T.1 F c2 c5
      have hhalf := lenD_half k (by omega)
      have nnl : vf_n64 (FP.dmul (lenD k) 4602678819172646912) := by rw [hhalf]; exact (lenD_mg (k + 1)).nn (by decide)
      obtain ⟨T1, hT1⟩ : ∃ T1, T1 = (gstep arD zcD P (lenD (k + 1)) (lenD (k + 2)) T).1 := ⟨_, rfl⟩
      obtain ⟨T2, hT2⟩ : ∃ T2, T2 = (gstep arD zcD P (lenD (k + 1)) (lenD (k + 2)) T1).1 := ⟨_, rfl⟩
      have eT2 : T2 = gsn arD zcD P (lenD (k + 1)) (lenD (k + 2)) (gT0 (hD σ 8) (svC σ (-1) FP.dconst0) P r2) (2 * (i + 1)) := by rw [hT2, hT1, eT]; rfl
      have eH : T2.1 q = H i := by rw [hH, eT2]
      refine j_iload (p2 := 76) dR_greatestGap_74 rfl rfl ?_
      refine j_iload_n (p2 := 77) dR_greatestGap_76 rfl rfl ?_
      refine j_icmp_ge (p2 := 80) (tg := 149) dR_greatestGap_77 rfl (by decide) (by constructor <;> omega) (by constructor <;> omega) (fun h77 => ?_) (fun h77 => ?_)
      · refine j_dload (p2 := 151) dR_greatestGap_149 rfl rfl ?_
        refine j_dreturn dR_greatestGap_151 rfl (by exact hfin (by omega))
      · refine j_aload_n (p2 := 81) dR_greatestGap_80 rfl rfl ?_
        refine j_getR (p2 := 84) dR_greatestGap_81 rfl fa_R_30 ly_51 rfl ?_
        refine j_dload_n (p2 := 85) dR_greatestGap_84 rfl rfl ?_
        refine j_ldc2d (p2 := 88) dR_greatestGap_85 rfl cw_R_57 ?_
        refine j_dmul (p2 := 89) dR_greatestGap_88 rfl (by assumption) ?_
        refine j_callV (m' := mT_advance) (As := [_]) (p2 := 92) dR_greatestGap_89 rfl ml_R_50 ok_mT_advance im_mT_advance se_mT_advance rfl rfl (Nat.le_of_ble_eq_true rfl) ly_56 rfl (Nat.le_of_ble_eq_true rfl) ⟨(Nat.le_of_ble_eq_true rfl), (Nat.le_of_ble_eq_true rfl)⟩ ?_
        rw [hhalf]
        refine cTt_advance (h := lenD (k + 1)) (h2 := lenD (k + 2)) c1 (c5.p hN2) c2 c3 c4 rfl (lenD_mh (k + 1)) (lenD_half (k + 1) (by omega)) (lenD_mh (k + 2)) hru2 (fun τ2 F2 d1 d2 d3 d4 d5 d6 => ?_)
        have d5b := c5.s d6
        rw [← hT1] at d1 d2 d3 d4
        have F3 := F.trans (F2.weak (by decide) : Fq TrC2 τ τ2)
        have hru3 : 0 ≤ hI τ2 3 1 ∧ hI τ2 3 1 ≤ 2 := by rw [F3.I (by decide)]; exact hru
        refine j_aload_n (p2 := 93) dR_greatestGap_92 rfl rfl ?_
        refine j_getR (p2 := 96) dR_greatestGap_93 rfl fa_R_30 ly_51 rfl ?_
        refine j_dload_n (p2 := 97) dR_greatestGap_96 rfl rfl ?_
        refine j_ldc2d (p2 := 100) dR_greatestGap_97 rfl cw_R_57 ?_
        refine j_dmul (p2 := 101) dR_greatestGap_100 rfl (by assumption) ?_
        refine j_callV (m' := mT_advance) (As := [_]) (p2 := 104) dR_greatestGap_101 rfl ml_R_50 ok_mT_advance im_mT_advance se_mT_advance rfl rfl (Nat.le_of_ble_eq_true rfl) ly_56 rfl (Nat.le_of_ble_eq_true rfl) ⟨(Nat.le_of_ble_eq_true rfl), (Nat.le_of_ble_eq_true rfl)⟩ ?_
        rw [hhalf]
        refine cTt_advance (h := lenD (k + 1)) (h2 := lenD (k + 2)) d1 (d5b.p hN2) d2 d3 d4 rfl (lenD_mh (k + 1)) (lenD_half (k + 1) (by omega)) (lenD_mh (k + 2)) hru3 (fun τ4 F4 g1 g2 g3 g4 g5 g6 => ?_)
        rw [← hT2] at g1 g2 g3 g4
        have F5 := F3.trans (F4.weak (by decide) : Fq TrC2 τ2 τ4)
        have w5 : ∀ j : Nat, j < n → hD τ4 53 j = W j ∧ BdD (W j) := fun j hj => by rw [F4.D (by decide), F2.D (by decide)]; exact w53 j hj
        have eq4 : hD τ4 57 q = H i := by rw [← eH]; exact (g2 q hq.1 hq.2).1
        have ew4 := (w5 i (by omega)).1
        have bHi : BdD (H i) := by rw [← eH]; exact (g2 q hq.1 hq.2).2
        have nd : vf_n64 (FP.dsub (W i) (H i)) := (mg_sub (w5 i (by omega)).2 bHi (by decide)).nn (by decide)
        have bH2 : ∀ j : Nat, j < i + 1 → BdD (H j) := fun j hj => by
          by_cases e : j = i
          · rw [e]; exact bHi
          · exact bHs j (by omega)
        refine j_aload_n (p2 := 105) dR_greatestGap_104 rfl rfl ?_
        refine j_getR (p2 := 108) dR_greatestGap_105 rfl fa_R_15 ly_51 rfl ?_
        refine j_iload (p2 := 110) dR_greatestGap_108 rfl rfl ?_
        refine j_dald (p2 := 111) dR_greatestGap_110 rfl ly_53 (by decide) (by omega) (by omega) ?_
        refine j_aload_n (p2 := 112) dR_greatestGap_111 rfl rfl ?_
        refine j_getR (p2 := 115) dR_greatestGap_112 rfl fa_R_30 ly_51 rfl ?_
        refine j_getR (p2 := 118) dR_greatestGap_115 rfl fa_R_54 ly_56 rfl ?_
        refine j_iload_n (p2 := 119) dR_greatestGap_118 rfl rfl ?_
        refine j_dald (p2 := 120) dR_greatestGap_119 rfl ly_57 (by decide) (by omega) (by omega) ?_
        refine j_dsub (p2 := 121) dR_greatestGap_120 rfl (by rw [ew4, eq4]; exact nd) ?_
        refine j_callS (m' := mN_sizeOf) (As := [_]) (p2 := 124) dR_greatestGap_121 rfl ml_R_59 ok_mN_sizeOf sm_mN_sizeOf rfl rfl (Nat.le_of_ble_eq_true rfl) (Nat.le_of_ble_eq_true rfl) ⟨(Nat.le_of_ble_eq_true rfl), (Nat.le_of_ble_eq_true rfl)⟩ ?_
        rw [ew4, eq4]
        refine cN_sizeOf ?_
        refine j_dstore (p2 := 126) (lv' := [(0, _), (1, _), (2, _), (3, _), (5, _), (7, _), (8, _)]) dR_greatestGap_124 rfl (Nat.le_of_ble_eq_true rfl) ⟨rfl, rfl, rfl, rfl, rfl, rfl, rfl, trivial⟩ ?_
        refine j_dload (p2 := 128) dR_greatestGap_126 rfl rfl ?_
        refine j_dload (p2 := 130) dR_greatestGap_128 rfl rfl ?_
        refine j_dcmp_l_le (p1 := 131) (p2 := 134) (tg := 139) dR_greatestGap_130 rfl dR_greatestGap_131 rfl (by decide) (fun h130 => ?_) (fun h130 => ?_)
        · refine j_dload (p2 := 141) dR_greatestGap_139 rfl rfl ?_
          refine J.loc (lv' := [(0, _), (1, _), (2, _), (3, _), (7, _)]) ⟨rfl, rfl, rfl, rfl, rfl, trivial⟩ ?_
          refine j_dstore (p2 := 143) (lv' := [(0, _), (1, _), (2, _), (3, _), (5, _), (7, _)]) dR_greatestGap_141 rfl (Nat.le_of_ble_eq_true rfl) ⟨rfl, rfl, rfl, rfl, rfl, rfl, trivial⟩ ?_
          refine j_iinc (p2 := 146) (lv' := [(0, _), (1, _), (2, _), (3, _), (5, _), (7, _)]) dR_greatestGap_143 rfl (Nat.le_of_ble_eq_true rfl) rfl ⟨rfl, rfl, rfl, rfl, rfl, rfl, trivial⟩ ?_
          refine j_goto (p2 := 74) dR_greatestGap_146 (by decide) ?_
          refine J.loc (lv' := [(0, _), (1, _), (2, _), (3, _), (5, _), (7, _)]) ⟨rfl, rfl, rfl, rfl, rfl, rfl, trivial⟩ ?_
          have ih2 := ih (i + 1) (by omega) (by omega) τ4 T2 eT2 F5 w5 bH2 g1 g2 g3 g4 (d5b.s g6)
          have e : ggp W H (i + 1) = (if FP.dcmp (szD (FP.dsub (W i) (H i))) (ggp W H i) = some .gt then szD (FP.dsub (W i) (H i)) else ggp W H i) := rfl
          rw [e] at ih2
          first
            | (have g : FP.dcmp (szD (FP.dsub (W i) (H i))) (ggp W H i) = some .gt := h130
               rw [if_pos g] at ih2
               exact ih2)
            | (have g : ¬ FP.dcmp (szD (FP.dsub (W i) (H i))) (ggp W H i) = some .gt := h130
               rw [if_neg g] at ih2
               exact ih2)
        · refine j_dload (p2 := 136) dR_greatestGap_134 rfl rfl ?_
          refine j_goto (p2 := 141) dR_greatestGap_136 (by decide) ?_
          refine J.loc (lv' := [(0, _), (1, _), (2, _), (3, _), (7, _)]) ⟨rfl, rfl, rfl, rfl, rfl, trivial⟩ ?_
          refine j_dstore (p2 := 143) (lv' := [(0, _), (1, _), (2, _), (3, _), (5, _), (7, _)]) dR_greatestGap_141 rfl (Nat.le_of_ble_eq_true rfl) ⟨rfl, rfl, rfl, rfl, rfl, rfl, trivial⟩ ?_
          refine j_iinc (p2 := 146) (lv' := [(0, _), (1, _), (2, _), (3, _), (5, _), (7, _)]) dR_greatestGap_143 rfl (Nat.le_of_ble_eq_true rfl) rfl ⟨rfl, rfl, rfl, rfl, rfl, rfl, trivial⟩ ?_
          refine j_goto (p2 := 74) dR_greatestGap_146 (by decide) ?_
          refine J.loc (lv' := [(0, _), (1, _), (2, _), (3, _), (5, _), (7, _)]) ⟨rfl, rfl, rfl, rfl, rfl, rfl, trivial⟩ ?_
          have ih2 := ih (i + 1) (by omega) (by omega) τ4 T2 eT2 F5 w5 bH2 g1 g2 g3 g4 (d5b.s g6)
          have e : ggp W H (i + 1) = (if FP.dcmp (szD (FP.dsub (W i) (H i))) (ggp W H i) = some .gt then szD (FP.dsub (W i) (H i)) else ggp W H i) := rfl
          rw [e] at ih2
          first
            | (have g : FP.dcmp (szD (FP.dsub (W i) (H i))) (ggp W H i) = some .gt := h130
               rw [if_pos g] at ih2
               exact ih2)
            | (have g : ¬ FP.dcmp (szD (FP.dsub (W i) (H i))) (ggp W H i) = some .gt := h130
               rw [if_neg g] at ih2
               exact ih2)
  have at59 : ∀ τ, Fq TrC2 σ τ → (∀ j : Nat, j < n → hD τ 53 j = W j ∧ BdD (W j)) → (∃ r2, Rdt τ r2 N) → L20 τ → J mR_greatestGap 59 [(0, vR 51), (1, vI q), (2, vI n), (3, vD (lenD k))] [] τ Q := by
    intro τ F w53 hr2 hl2
    obtain ⟨r2, hr2⟩ := hr2
    obtain ⟨b1, b2, b3, b4, b5, b6⟩ := hT0.fr F (by decide)
    have eP : Pct τ fr (svC τ (-1) FP.dconst0) nn L N = P := by
      rw [hP]
      unfold Pct svC
      rw [F.I (by decide), F.D (by decide), F.I (by decide), F.I (by decide), F.D (by decide), F.D (by decide), F.I (by decide)]
    have e8 := F.D (c := 8) (by decide)
    have esv : svC τ (-1) FP.dconst0 = svC σ (-1) FP.dconst0 := by funext x; unfold svC; rw [F.D (by decide)]
    refine j_dconst0 (p2 := 60) dR_greatestGap_59 rfl ?_
    refine j_dstore (p2 := 62) (lv' := [(0, _), (1, _), (2, _), (3, _), (5, _)]) dR_greatestGap_60 rfl (Nat.le_of_ble_eq_true rfl) ⟨rfl, rfl, rfl, rfl, rfl, trivial⟩ ?_
    refine j_aload_n (p2 := 63) dR_greatestGap_62 rfl rfl ?_
    refine j_getR (p2 := 66) dR_greatestGap_63 rfl fa_R_30 ly_51 rfl ?_
    refine j_iconst (p2 := 67) dR_greatestGap_66 rfl ?_
    refine j_dconst0 (p2 := 68) dR_greatestGap_67 rfl ?_
    refine j_callV (m' := mT_toStart) (As := [_, _]) (p2 := 71) dR_greatestGap_68 rfl ml_R_46 ok_mT_toStart im_mT_toStart se_mT_toStart rfl rfl (Nat.le_of_ble_eq_true rfl) ly_56 rfl (Nat.le_of_ble_eq_true rfl) ⟨(Nat.le_of_ble_eq_true rfl), (Nat.le_of_ble_eq_true rfl)⟩ ?_
    refine cTt_toStart (nn := nn) b1 b2 b3 b4 b5 (hl2.p hN2) hr2 b6 (fun P2 q2 hP2 hq2 τ2 F2 d1 d2 d3 d4 d5 d6 => ?_)
    replace hP2 : P2 = P := hP2.trans eP
    subst hP2
    rw [esv, e8] at d1
    rw [e8] at d3
    rw [hq2, e8] at d2
    rw [esv] at d4
    refine j_iconst (p2 := 72) dR_greatestGap_71 rfl ?_
    refine j_istore (p2 := 74) (lv' := [(0, _), (1, _), (2, _), (3, _), (5, _), (7, _)]) dR_greatestGap_72 rfl (Nat.le_of_ble_eq_true rfl) ⟨rfl, rfl, rfl, rfl, rfl, rfl, trivial⟩ ?_
    refine J.loc (lv' := [(0, _), (1, _), (2, _), (3, _), (5, _), (7, _)]) ⟨rfl, rfl, rfl, rfl, rfl, rfl, trivial⟩ ?_
    exact loop2 r2 _ rfl (n + 1) 0 (by omega) (by omega) τ2 (gT0 (hD σ 8) (svC σ (-1) FP.dconst0) P2 r2) rfl (F.trans (F2.weak (by decide) : Fq TrC2 τ τ2)) (fun j hj => by rw [F2.D (by decide)]; exact w53 j hj) (fun j hj => absurd hj (by omega)) d1 d2 d3 (fun m x y z => d4 m x y) (hl2.s d6)
  have loop : ∀ (f i : Nat), i ≤ n → n + 1 ≤ i + f → ∀ τ T, T = gsn arD zcD P (lenD k) (lenD (k + 1)) (gT0 (hD σ 8) (svC σ (-1) FP.dconst0) P r) i → Fq TrC2 σ τ → (∀ j : Nat, j < i → hD τ 53 j = W j ∧ BdD (W j)) → Cxt τ fr (svC σ (-1) FP.dconst0) nn T.2.2.1 L N P → Rdt τ T.1 N → Stt τ T.2.1 N → Sdt τ T.2.2.2 N → L20 τ → J mR_greatestGap 23 [(0, vR 51), (1, vI q), (2, vI n), (3, vD (lenD k)), (5, vI i)] [] τ Q := by
    intro f
    induction f with
    | zero => intro i h1 h2; exact absurd h2 (by omega)
    | succ f ih =>
      intro i h1 h2 τ T eT F w53 c1 c2 c3 c4 c5
      have hru2 : 0 ≤ hI τ 3 1 ∧ hI τ 3 1 ≤ 2 := by rw [F.I (by decide)]; exact hru
      obtain ⟨T1, hT1⟩ : ∃ T1, T1 = (gstep arD zcD P (lenD k) (lenD (k + 1)) T).1 := ⟨_, rfl⟩
      have eT1 : T1 = gsn arD zcD P (lenD k) (lenD (k + 1)) (gT0 (hD σ 8) (svC σ (-1) FP.dconst0) P r) (i + 1) := by rw [hT1, eT]; rfl
      have eW : T1.1 q = W i := by rw [hW, eT1]
      refine j_iload (p2 := 25) dR_greatestGap_23 rfl rfl ?_
      refine j_iload_n (p2 := 26) dR_greatestGap_25 rfl rfl ?_
      refine j_icmp_ge (p2 := 29) (tg := 59) dR_greatestGap_26 rfl (by decide) (by constructor <;> omega) (by constructor <;> omega) (fun h26 => ?_) (fun h26 => ?_)
      · refine J.loc (lv' := [(0, _), (1, _), (2, _), (3, _)]) ⟨rfl, rfl, rfl, rfl, trivial⟩ ?_
        exact at59 τ F (fun j hj => w53 j (by omega)) ⟨_, c2⟩ c5
      · refine j_aload_n (p2 := 30) dR_greatestGap_29 rfl rfl ?_
        refine j_getR (p2 := 33) dR_greatestGap_30 rfl fa_R_30 ly_51 rfl ?_
        refine j_dload_n (p2 := 34) dR_greatestGap_33 rfl rfl ?_
        refine j_callV (m' := mT_advance) (As := [_]) (p2 := 37) dR_greatestGap_34 rfl ml_R_50 ok_mT_advance im_mT_advance se_mT_advance rfl rfl (Nat.le_of_ble_eq_true rfl) ly_56 rfl (Nat.le_of_ble_eq_true rfl) ⟨(Nat.le_of_ble_eq_true rfl), (Nat.le_of_ble_eq_true rfl)⟩ ?_
        refine cTt_advance (h := lenD k) (h2 := lenD (k + 1)) c1 (c5.p hN2) c2 c3 c4 rfl (lenD_mh k) (lenD_half k (by omega)) (lenD_mh (k + 1)) hru2 (fun τ2 F2 d1 d2 d3 d4 d5 d6 => ?_)
        have d5b := c5.s d6
        rw [← hT1] at d1 d2 d3 d4
        have F3 := F.trans (F2.weak (by decide) : Fq TrC2 τ τ2)
        refine j_aload_n (p2 := 38) dR_greatestGap_37 rfl rfl ?_
        refine j_getR (p2 := 41) dR_greatestGap_38 rfl fa_R_15 ly_51 rfl ?_
        refine j_iload (p2 := 43) dR_greatestGap_41 rfl rfl ?_
        refine j_aload_n (p2 := 44) dR_greatestGap_43 rfl rfl ?_
        refine j_getR (p2 := 47) dR_greatestGap_44 rfl fa_R_30 ly_51 rfl ?_
        refine j_getR (p2 := 50) dR_greatestGap_47 rfl fa_R_54 ly_56 rfl ?_
        refine j_iload_n (p2 := 51) dR_greatestGap_50 rfl rfl ?_
        refine j_dald (p2 := 52) dR_greatestGap_51 rfl ly_57 (by decide) (by omega) (by omega) ?_
        refine j_dastk (p2 := 53) dR_greatestGap_52 rfl ly_53 (by decide) (by omega) (by omega) ?_
        refine j_iinc (p2 := 56) (lv' := [(0, _), (1, _), (2, _), (3, _), (5, _)]) dR_greatestGap_53 rfl (Nat.le_of_ble_eq_true rfl) rfl ⟨rfl, rfl, rfl, rfl, rfl, trivial⟩ ?_
        refine j_goto (p2 := 23) dR_greatestGap_56 (by decide) ?_
        refine J.loc (lv' := [(0, _), (1, _), (2, _), (3, _), (5, _)]) ⟨rfl, rfl, rfl, rfl, rfl, trivial⟩ ?_
        refine ih (i + 1) (by omega) (by omega) _ T1 eT1 (F3.wD (by decide)) (fun j hj => ?_) d1 d2 d3 d4 d5b
        show fup (hD τ2 53) i (hD τ2 57 q) j = W j ∧ BdD (W j)
        by_cases g : (j : Int) = i
        · have g2 : j = i := by omega
          subst g2
          rw [fup_s, ← eW]
          exact d2 q hq.1 hq.2
        · unfold fup
          rw [if_neg g, F2.D (by decide)]
          exact w53 j (by omega)
  refine j_aload_n (p2 := 1) dR_greatestGap_0 rfl rfl ?_
  refine j_getR (p2 := 4) dR_greatestGap_1 rfl fa_R_18 ly_51 rfl ?_
  refine j_getIk (p2 := 7) dR_greatestGap_4 rfl fa_R_34 ly_3 rfl (ki := 2) rfl ?_
  refine j_callS (m' := mN_powerOfHalf) (As := [_]) (p2 := 10) dR_greatestGap_7 rfl ml_R_40 ok_mN_powerOfHalf sm_mN_powerOfHalf rfl rfl (Nat.le_of_ble_eq_true rfl) (Nat.le_of_ble_eq_true rfl) ⟨(Nat.le_of_ble_eq_true rfl), (Nat.le_of_ble_eq_true rfl)⟩ ?_
  rw [hk.1]
  refine cN_powL hk.2.1 (by omega) ?_
  refine j_dstore_n (p2 := 11) (lv' := [(0, _), (1, _), (2, _), (3, _)]) dR_greatestGap_10 rfl (Nat.le_of_ble_eq_true rfl) ⟨rfl, rfl, rfl, rfl, trivial⟩ ?_
  refine j_aload_n (p2 := 12) dR_greatestGap_11 rfl rfl ?_
  refine j_getR (p2 := 15) dR_greatestGap_12 rfl fa_R_30 ly_51 rfl ?_
  refine j_iconst (p2 := 16) dR_greatestGap_15 rfl ?_
  refine j_dconst0 (p2 := 17) dR_greatestGap_16 rfl ?_
  refine j_callV (m' := mT_toStart) (As := [_, _]) (p2 := 20) dR_greatestGap_17 rfl ml_R_46 ok_mT_toStart im_mT_toStart se_mT_toStart rfl rfl (Nat.le_of_ble_eq_true rfl) ly_56 rfl (Nat.le_of_ble_eq_true rfl) ⟨(Nat.le_of_ble_eq_true rfl), (Nat.le_of_ble_eq_true rfl)⟩ ?_
  refine cTt_toStart (nn := nn) a1 a2 a3 a4 a5 (hl.p hN2) hr a6 (fun P2 q2 hP2 hq2 τ F d1 d2 d3 d4 d5 d6 => ?_)
  replace hP2 : P2 = P := hP2.trans hP.symm
  subst hP2
  refine j_iconst (p2 := 21) dR_greatestGap_20 rfl ?_
  refine j_istore (p2 := 23) (lv' := [(0, _), (1, _), (2, _), (3, _), (5, _)]) dR_greatestGap_21 rfl (Nat.le_of_ble_eq_true rfl) ⟨rfl, rfl, rfl, rfl, rfl, trivial⟩ ?_
  refine J.loc (lv' := [(0, _), (1, _), (2, _), (3, _), (5, _)]) ⟨rfl, rfl, rfl, rfl, rfl, trivial⟩ ?_
  exact loop (n + 1) 0 (by omega) (by omega) τ (gT0 (hD σ 8) (svC σ (-1) FP.dconst0) P2 r) rfl (F.weak (by decide)) (fun j hj => by omega) d1 (by rw [hq2] at d2; exact d2) d3 (fun m x y z => d4 m x y) (hl.s d6)
end TRI2
