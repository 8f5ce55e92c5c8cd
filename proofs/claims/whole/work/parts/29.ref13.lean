/-! ===== a step of the reference ===== -/
theorem mg_div2 {a : UInt64} {K : Nat} (h : mg a K) (hK : K ≤ 2047) : mg (FP.ddiv a 4611686018427387904) (K + 1021 - 1024 + 3) := FP.Core.ddiv_mag (L := 1024) h (by decide) (by decide) hK (by decide)
theorem mg_half {t : UInt64} (h : mg t 1023) : mg (FP.ddiv t 4611686018427387904) 1023 := (mg_div2 h (by decide)).mono (by decide)
section REF13
variable {σ : Hp} {Q : Option PV → Hp → Prop} {N : Nat}
def rdN (σ : Hp) (N : Nat) : Hp := rdH σ (ords (hI σ 79) N)
def tmH (σ : Hp) : Hp := wI σ 69 (fup (hI σ 69) 12 (hI σ 69 12 + 1))
def endH (σ : Hp) (N : Nat) : Hp := dfH (rdN (tmH (otH σ N)) N) N
def s0H (σ : Hp) (N : Nat) : Hp := krH1 (raH (p1H σ N) N) N
def r1H (σ : Hp) (N : Nat) (t : UInt64) : Hp := sgH (adH (raH (rdN (sgH σ t N) N) N) N) (FP.ddiv t 4611686018427387904) N
def k2H (σ : Hp) (N : Nat) (t : UInt64) : Hp := krH2 (raH (rdN (sgH σ t N) N) N) N
def k3H (σ : Hp) (N : Nat) (t : UInt64) : Hp := krH3 (raH (rdN (sgH σ t N) N) N) N
def r2H (σ : Hp) (N : Nat) (t : UInt64) : Hp := sgH (wgH (raH (rdN (sgH (k3H (k2H σ N (FP.ddiv t 4611686018427387904)) N (FP.ddiv t 4611686018427387904)) t N) N) N) N) t N
def midH (σ : Hp) (N : Nat) (t : UInt64) (r : Int) : Hp := if r = 0 then sgH σ t N else if r = 1 then r1H σ N t else r2H σ N t
def stepH (σ : Hp) (N : Nat) : Hp := endH (midH (s0H σ N) N (hD σ 69 45) (hI σ 69 13)) N
theorem WT.n (hw : WT σ N) : hI σ 69 0 = N ∧ N ≤ 20 := ⟨hw.1.1.1, hw.1.1.2.1⟩
theorem WT.c (hw : WT σ N) : ∀ m : Int, 0 ≤ m → m < N → CdR σ m ∧ inR (hI σ 70 m) := fun m a b => by
  obtain ⟨g1, g2, g3, g4⟩ := hw.1.1.2.2.1 m a b
  exact ⟨g2, by constructor <;> omega⟩
theorem WT.l (hw : WT σ N) : ∀ m : Int, 0 ≤ m → m < N → inR (hI σ 70 m) ∧ inR (hI σ 87 m) := fun m a b => by
  obtain ⟨g1, g2, g3, g4, g5, g6, g7, g8⟩ := hw.1.1.2.2.1 m a b
  exact ⟨by constructor <;> omega, g8⟩
theorem WT.o (hw : WT σ N) : ∀ m : Int, 0 ≤ m → m < N → inR (hI σ 70 m) ∧ (hI σ 70 m = 11 → 1 ≤ nnR σ m ∧ nnR σ m ≤ 16) := fun m a b => ⟨(hw.l m a b).1, fun h => ((hw.1.2.2 m a b).2 h).2⟩
theorem WT.s (hw : WT σ N) (hr : Rq σ N) : ∀ k : Int, 0 ≤ k → k < N → hI σ 70 k = 2 → mg (hD σ 108 k) 1024 ∧ mf (hF σ 112 k) 128 ∧ mg (hD σ 115 k) 1060 ∧ mf (hF σ 116 k) 160 := fun m a b _ => ⟨(hw.2.2.1 m a b).1, (hw.2.2.1 m a b).2, (hr m a b).1, (hr m a b).2⟩
theorem st_end (hw : WT σ N) (hQ : WT (endH σ N) N → Q none (endH σ N)) : J mM_step 456 [(0, vR 69)] [] σ Q := by
  have w1 := ot_W hw
  have w2 : WT (tmH (otH σ N)) N := w1
  refine j_aload_n (p2 := 457) dM_step_456 rfl rfl ?_
  refine j_callV (m' := mM_others) (As := []) (p2 := 460) dM_step_457 rfl ml_M_319 ok_mM_others im_mM_others se_mM_others rfl rfl (Nat.le_of_ble_eq_true rfl) ly_69 rfl (Nat.le_of_ble_eq_true rfl) ⟨(Nat.le_of_ble_eq_true rfl), (Nat.le_of_ble_eq_true rfl)⟩ ?_
  refine cM_others hw.n hw.o ?_
  refine j_aload_n (p2 := 461) dM_step_460 rfl rfl ?_
  refine j_dup (p2 := 462) dM_step_461 rfl rfl ?_
  refine j_getIk (p2 := 465) dM_step_462 rfl fa_M_322 ly_69 rfl (ki := 12) rfl ?_
  refine j_iconst (p2 := 466) dM_step_465 rfl ?_
  refine j_iadd (p2 := 467) dM_step_466 rfl ?_
  refine j_putIk (p2 := 470) dM_step_467 rfl fw_M_322 ly_69 rfl (ki := 12) rfl ?_
  refine j_aload_n (p2 := 471) dM_step_470 rfl rfl ?_
  refine j_callV (m' := mM_readAll) (As := []) (p2 := 474) dM_step_471 rfl ml_M_311 ok_mM_readAll im_mM_readAll se_mM_readAll rfl rfl (Nat.le_of_ble_eq_true rfl) ly_69 rfl (Nat.le_of_ble_eq_true rfl) ⟨(Nat.le_of_ble_eq_true rfl), (Nat.le_of_ble_eq_true rfl)⟩ ?_
  refine cM_readAll (σ := tmH (otH σ N)) (N := N) w2.1.1 w2.1.2.1 (fun hg => ?_)
  have w3 := rd_W w2 hg
  refine j_iconst (p2 := 475) dM_step_474 rfl ?_
  refine j_istore_n (p2 := 476) (lv' := [(0, _), (3, _)]) dM_step_475 rfl (Nat.le_of_ble_eq_true rfl) ⟨rfl, rfl, trivial⟩ ?_
  refine J.loc (lv' := [(0, _), (3, _)]) ⟨rfl, rfl, trivial⟩ ?_
  refine st_D (σ := rdN (tmH (otH σ N)) N) w3.n w3.1.2.1 (hQ w3)
theorem fr_r {t : UInt64} (hw : WT σ N) (hr : Rb σ 115 116 N) (ht : mg t 1024) (hg : RdG (sgH σ t N) (ords (hI σ 79) N)) : WT (rdN (sgH σ t N) N) N := rd_W (σ := sgH σ t N) (sg_W ht hw hr.q) hg
theorem fr_105 {t : UInt64} (h : Rb σ 105 109 N) : Rb (raH (rdN (sgH σ t N) N) N) 105 109 N := fun m a b => by
  have e1 : hD (raH (rdN (sgH σ t N) N) N) 105 = hD σ 105 := rfl
  have e2 : hF (raH (rdN (sgH σ t N) N) N) 109 = hF σ 109 := rfl
  rw [e1, e2]; exact h m a b
theorem fz_105 {t : UInt64} (h : Zc σ 105 109 N) : Zc (raH (rdN (sgH σ t N) N) N) 105 109 N := fun m a b => by
  have e1 : hD (raH (rdN (sgH σ t N) N) N) 105 = hD σ 105 := rfl
  have e2 : hF (raH (rdN (sgH σ t N) N) N) 109 = hF σ 109 := rfl
  have e3 : hI (raH (rdN (sgH σ t N) N) N) 70 = hI σ 70 := rfl
  rw [e1, e2, e3]; exact h m a b
theorem fr_106 {t : UInt64} (h : Rb σ 106 110 N) : Rb (raH (rdN (sgH σ t N) N) N) 106 110 N := fun m a b => by
  have e1 : hD (raH (rdN (sgH σ t N) N) N) 106 = hD σ 106 := rfl
  have e2 : hF (raH (rdN (sgH σ t N) N) N) 110 = hF σ 110 := rfl
  rw [e1, e2]; exact h m a b
theorem fz_106 {t : UInt64} (h : Zc σ 106 110 N) : Zc (raH (rdN (sgH σ t N) N) N) 106 110 N := fun m a b => by
  have e1 : hD (raH (rdN (sgH σ t N) N) N) 106 = hD σ 106 := rfl
  have e2 : hF (raH (rdN (sgH σ t N) N) N) 110 = hF σ 110 := rfl
  have e3 : hI (raH (rdN (sgH σ t N) N) N) 70 = hI σ 70 := rfl
  rw [e1, e2, e3]; exact h m a b
theorem fr_107 {t : UInt64} (h : Rb σ 107 111 N) : Rb (raH (rdN (sgH σ t N) N) N) 107 111 N := fun m a b => by
  have e1 : hD (raH (rdN (sgH σ t N) N) N) 107 = hD σ 107 := rfl
  have e2 : hF (raH (rdN (sgH σ t N) N) N) 111 = hF σ 111 := rfl
  rw [e1, e2]; exact h m a b
theorem fz_107 {t : UInt64} (h : Zc σ 107 111 N) : Zc (raH (rdN (sgH σ t N) N) N) 107 111 N := fun m a b => by
  have e1 : hD (raH (rdN (sgH σ t N) N) N) 107 = hD σ 107 := rfl
  have e2 : hF (raH (rdN (sgH σ t N) N) N) 111 = hF σ 111 := rfl
  have e3 : hI (raH (rdN (sgH σ t N) N) N) 70 = hI σ 70 := rfl
  rw [e1, e2, e3]; exact h m a b
theorem fk2_105 (h : Rb σ 105 109 N) : Rb (krH2 σ N) 105 109 N := fun m a b => by
  have e1 : hD (krH2 σ N) 105 = hD σ 105 := rfl
  have e2 : hF (krH2 σ N) 109 = hF σ 109 := rfl
  rw [e1, e2]; exact h m a b
theorem fl2_105 (h : Zc σ 105 109 N) : Zc (krH2 σ N) 105 109 N := fun m a b => by
  have e1 : hD (krH2 σ N) 105 = hD σ 105 := rfl
  have e2 : hF (krH2 σ N) 109 = hF σ 109 := rfl
  have e3 : hI (krH2 σ N) 70 = hI σ 70 := rfl
  rw [e1, e2, e3]; exact h m a b
theorem fk3_105 (h : Rb σ 105 109 N) : Rb (krH3 σ N) 105 109 N := fun m a b => by
  have e1 : hD (krH3 σ N) 105 = hD σ 105 := rfl
  have e2 : hF (krH3 σ N) 109 = hF σ 109 := rfl
  rw [e1, e2]; exact h m a b
theorem fl3_105 (h : Zc σ 105 109 N) : Zc (krH3 σ N) 105 109 N := fun m a b => by
  have e1 : hD (krH3 σ N) 105 = hD σ 105 := rfl
  have e2 : hF (krH3 σ N) 109 = hF σ 109 := rfl
  have e3 : hI (krH3 σ N) 70 = hI σ 70 := rfl
  rw [e1, e2, e3]; exact h m a b
theorem fk3_106 (h : Rb σ 106 110 N) : Rb (krH3 σ N) 106 110 N := fun m a b => by
  have e1 : hD (krH3 σ N) 106 = hD σ 106 := rfl
  have e2 : hF (krH3 σ N) 110 = hF σ 110 := rfl
  rw [e1, e2]; exact h m a b
theorem fl3_106 (h : Zc σ 106 110 N) : Zc (krH3 σ N) 106 110 N := fun m a b => by
  have e1 : hD (krH3 σ N) 106 = hD σ 106 := rfl
  have e2 : hF (krH3 σ N) 110 = hF σ 110 := rfl
  have e3 : hI (krH3 σ N) 70 = hI σ 70 := rfl
  rw [e1, e2, e3]; exact h m a b
theorem kr2_WT (h : WT σ N) : WT (krH2 σ N) N := h
theorem kr3_WT (h : WT σ N) : WT (krH3 σ N) N := h
theorem kr2_Rb (h : Rb σ 115 116 N) : Rb (krH2 σ N) 115 116 N := h
theorem kr3_Rb (h : Rb σ 115 116 N) : Rb (krH3 σ N) 115 116 N := h
theorem st_k2 {t : UInt64} (hw : WT σ N) (hr : Rb σ 115 116 N) (ht : mg (FP.ddiv t 4611686018427387904) 1024) (k : WT (raH (rdN (sgH σ (FP.ddiv t 4611686018427387904) N) N) N) N → Rb (raH (rdN (sgH σ (FP.ddiv t 4611686018427387904) N) N) N) 115 116 N → J mM_step 290 [(0, vR 69), (1, vD t)] [] (k2H σ N (FP.ddiv t 4611686018427387904)) Q) : J mM_step 268 [(0, vR 69), (1, vD t)] [] σ Q := by
  have w1 := sg_W ht hw hr.q
  refine j_aload_n (p2 := 269) dM_step_268 rfl rfl ?_
  refine j_dload_n (p2 := 270) dM_step_269 rfl rfl ?_
  refine j_ldc2d (p2 := 273) dM_step_270 rfl cw_M_314 ?_
  refine j_ddiv (p2 := 274) dM_step_273 rfl (by exact ht.nn (by decide)) ?_
  refine j_callV (m' := mM_stage) (As := [_]) (p2 := 277) dM_step_274 rfl ml_M_307 ok_mM_stage im_mM_stage se_mM_stage rfl rfl (Nat.le_of_ble_eq_true rfl) ly_69 rfl (Nat.le_of_ble_eq_true rfl) ⟨(Nat.le_of_ble_eq_true rfl), (Nat.le_of_ble_eq_true rfl)⟩ ?_
  refine cM_stage ht hw.n hw.l hw.1.1.2.2.2.2.1 (hw.s hr.q) ?_
  refine j_aload_n (p2 := 278) dM_step_277 rfl rfl ?_
  refine j_callV (m' := mM_readAll) (As := []) (p2 := 281) dM_step_278 rfl ml_M_311 ok_mM_readAll im_mM_readAll se_mM_readAll rfl rfl (Nat.le_of_ble_eq_true rfl) ly_69 rfl (Nat.le_of_ble_eq_true rfl) ⟨(Nat.le_of_ble_eq_true rfl), (Nat.le_of_ble_eq_true rfl)⟩ ?_
  refine cM_readAll w1.1.1 w1.1.2.1 (fun hg => ?_)
  have w2 := fr_r hw hr ht hg
  refine j_aload_n (p2 := 282) dM_step_281 rfl rfl ?_
  refine j_callV (m' := mM_rateAll) (As := []) (p2 := 285) dM_step_282 rfl ml_M_301 ok_mM_rateAll im_mM_rateAll se_mM_rateAll rfl rfl (Nat.le_of_ble_eq_true rfl) ly_69 rfl (Nat.le_of_ble_eq_true rfl) ⟨(Nat.le_of_ble_eq_true rfl), (Nat.le_of_ble_eq_true rfl)⟩ ?_
  have w3 := ra_W w2
  refine cM_rateAll w2.n w2.c w2.1.2.1 ?_
  refine j_aload_n (p2 := 286) dM_step_285 rfl rfl ?_
  refine j_iconst (p2 := 287) dM_step_286 rfl ?_
  refine j_callV (m' := mM_keepRates) (As := [_]) (p2 := 290) dM_step_287 rfl ml_M_304 ok_mM_keepRates im_mM_keepRates se_mM_keepRates rfl rfl (Nat.le_of_ble_eq_true rfl) ly_69 rfl (Nat.le_of_ble_eq_true rfl) ⟨(Nat.le_of_ble_eq_true rfl), (Nat.le_of_ble_eq_true rfl)⟩ ?_
  refine cM_keepRates2 w3.1.n ?_
  refine J.loc (lv' := [(0, _), (1, _)]) ⟨rfl, rfl, trivial⟩ ?_
  exact k w3.1 w3.2
theorem st_k3 {t : UInt64} (hw : WT σ N) (hr : Rb σ 115 116 N) (ht : mg (FP.ddiv t 4611686018427387904) 1024) (k : WT (raH (rdN (sgH σ (FP.ddiv t 4611686018427387904) N) N) N) N → Rb (raH (rdN (sgH σ (FP.ddiv t 4611686018427387904) N) N) N) 115 116 N → J mM_step 312 [(0, vR 69), (1, vD t)] [] (k3H σ N (FP.ddiv t 4611686018427387904)) Q) : J mM_step 290 [(0, vR 69), (1, vD t)] [] σ Q := by
  have w1 := sg_W ht hw hr.q
  refine j_aload_n (p2 := 291) dM_step_290 rfl rfl ?_
  refine j_dload_n (p2 := 292) dM_step_291 rfl rfl ?_
  refine j_ldc2d (p2 := 295) dM_step_292 rfl cw_M_314 ?_
  refine j_ddiv (p2 := 296) dM_step_295 rfl (by exact ht.nn (by decide)) ?_
  refine j_callV (m' := mM_stage) (As := [_]) (p2 := 299) dM_step_296 rfl ml_M_307 ok_mM_stage im_mM_stage se_mM_stage rfl rfl (Nat.le_of_ble_eq_true rfl) ly_69 rfl (Nat.le_of_ble_eq_true rfl) ⟨(Nat.le_of_ble_eq_true rfl), (Nat.le_of_ble_eq_true rfl)⟩ ?_
  refine cM_stage ht hw.n hw.l hw.1.1.2.2.2.2.1 (hw.s hr.q) ?_
  refine j_aload_n (p2 := 300) dM_step_299 rfl rfl ?_
  refine j_callV (m' := mM_readAll) (As := []) (p2 := 303) dM_step_300 rfl ml_M_311 ok_mM_readAll im_mM_readAll se_mM_readAll rfl rfl (Nat.le_of_ble_eq_true rfl) ly_69 rfl (Nat.le_of_ble_eq_true rfl) ⟨(Nat.le_of_ble_eq_true rfl), (Nat.le_of_ble_eq_true rfl)⟩ ?_
  refine cM_readAll w1.1.1 w1.1.2.1 (fun hg => ?_)
  have w2 := fr_r hw hr ht hg
  refine j_aload_n (p2 := 304) dM_step_303 rfl rfl ?_
  refine j_callV (m' := mM_rateAll) (As := []) (p2 := 307) dM_step_304 rfl ml_M_301 ok_mM_rateAll im_mM_rateAll se_mM_rateAll rfl rfl (Nat.le_of_ble_eq_true rfl) ly_69 rfl (Nat.le_of_ble_eq_true rfl) ⟨(Nat.le_of_ble_eq_true rfl), (Nat.le_of_ble_eq_true rfl)⟩ ?_
  have w3 := ra_W w2
  refine cM_rateAll w2.n w2.c w2.1.2.1 ?_
  refine j_aload_n (p2 := 308) dM_step_307 rfl rfl ?_
  refine j_iconst (p2 := 309) dM_step_308 rfl ?_
  refine j_callV (m' := mM_keepRates) (As := [_]) (p2 := 312) dM_step_309 rfl ml_M_304 ok_mM_keepRates im_mM_keepRates se_mM_keepRates rfl rfl (Nat.le_of_ble_eq_true rfl) ly_69 rfl (Nat.le_of_ble_eq_true rfl) ⟨(Nat.le_of_ble_eq_true rfl), (Nat.le_of_ble_eq_true rfl)⟩ ?_
  refine cM_keepRates3 w3.1.n ?_
  refine J.loc (lv' := [(0, _), (1, _)]) ⟨rfl, rfl, trivial⟩ ?_
  exact k w3.1 w3.2
theorem st_k4 {t : UInt64} (hw : WT σ N) (hr : Rb σ 115 116 N) (ht : mg t 1024) (h5 : Rb σ 105 109 N) (z5 : Zc σ 105 109 N) (h6 : Rb σ 106 110 N) (z6 : Zc σ 106 110 N) (h7 : Rb σ 107 111 N) (z7 : Zc σ 107 111 N)
    (k : WT (sgH (wgH (raH (rdN (sgH σ t N) N) N) N) t N) N → J mM_step 456 [(0, vR 69)] [] (sgH (wgH (raH (rdN (sgH σ t N) N) N) N) t N) Q) : J mM_step 312 [(0, vR 69), (1, vD t)] [] σ Q := by
  have w1 := sg_W ht hw hr.q
  refine j_aload_n (p2 := 313) dM_step_312 rfl rfl ?_
  refine j_dload_n (p2 := 314) dM_step_313 rfl rfl ?_
  refine j_callV (m' := mM_stage) (As := [_]) (p2 := 317) dM_step_314 rfl ml_M_307 ok_mM_stage im_mM_stage se_mM_stage rfl rfl (Nat.le_of_ble_eq_true rfl) ly_69 rfl (Nat.le_of_ble_eq_true rfl) ⟨(Nat.le_of_ble_eq_true rfl), (Nat.le_of_ble_eq_true rfl)⟩ ?_
  refine cM_stage ht hw.n hw.l hw.1.1.2.2.2.2.1 (hw.s hr.q) ?_
  refine j_aload_n (p2 := 318) dM_step_317 rfl rfl ?_
  refine j_callV (m' := mM_readAll) (As := []) (p2 := 321) dM_step_318 rfl ml_M_311 ok_mM_readAll im_mM_readAll se_mM_readAll rfl rfl (Nat.le_of_ble_eq_true rfl) ly_69 rfl (Nat.le_of_ble_eq_true rfl) ⟨(Nat.le_of_ble_eq_true rfl), (Nat.le_of_ble_eq_true rfl)⟩ ?_
  refine cM_readAll w1.1.1 w1.1.2.1 (fun hg => ?_)
  have w2 := fr_r hw hr ht hg
  refine j_aload_n (p2 := 322) dM_step_321 rfl rfl ?_
  refine j_callV (m' := mM_rateAll) (As := []) (p2 := 325) dM_step_322 rfl ml_M_301 ok_mM_rateAll im_mM_rateAll se_mM_rateAll rfl rfl (Nat.le_of_ble_eq_true rfl) ly_69 rfl (Nat.le_of_ble_eq_true rfl) ⟨(Nat.le_of_ble_eq_true rfl), (Nat.le_of_ble_eq_true rfl)⟩ ?_
  have w3 := ra_W w2
  refine cM_rateAll w2.n w2.c w2.1.2.1 ?_
  refine j_iconst (p2 := 326) dM_step_325 rfl ?_
  refine j_istore_n (p2 := 327) (lv' := [(0, _), (1, _), (3, _)]) dM_step_326 rfl (Nat.le_of_ble_eq_true rfl) ⟨rfl, rfl, rfl, trivial⟩ ?_
  refine J.loc (lv' := [(0, _), (1, _), (3, _)]) ⟨rfl, rfl, rfl, trivial⟩ ?_
  have w4 := wg_W w3.1 (fr_105 h5) (fz_105 z5) (fr_106 h6) (fz_106 z6) (fr_107 h7) (fz_107 z7) w3.2
  refine st_C w3.1.n (fr_105 h5) (fr_106 h6) (fr_107 h7) w3.2 ?_
  refine j_aload_n (p2 := 452) dM_step_451 rfl rfl ?_
  refine j_dload_n (p2 := 453) dM_step_452 rfl rfl ?_
  refine j_callV (m' := mM_stage) (As := [_]) (p2 := 456) dM_step_453 rfl ml_M_307 ok_mM_stage im_mM_stage se_mM_stage rfl rfl (Nat.le_of_ble_eq_true rfl) ly_69 rfl (Nat.le_of_ble_eq_true rfl) ⟨(Nat.le_of_ble_eq_true rfl), (Nat.le_of_ble_eq_true rfl)⟩ ?_
  refine cM_stage ht w4.1.n w4.1.l w4.1.1.1.2.2.2.2.1 (w4.1.s w4.2) ?_
  refine J.loc (lv' := [(0, _)]) ⟨rfl, trivial⟩ ?_
  exact k (sg_W ht w4.1 w4.2)
theorem st_r1 {t : UInt64} (hw : WT σ N) (hr : Rb σ 115 116 N) (ht : mg t 1024) (ht2 : mg (FP.ddiv t 4611686018427387904) 1024) (h5 : Rb σ 105 109 N) (z5 : Zc σ 105 109 N)
    (k : WT (r1H σ N t) N → J mM_step 456 [(0, vR 69)] [] (r1H σ N t) Q) : J mM_step 189 [(0, vR 69), (1, vD t)] [] σ Q := by
  have w1 := sg_W ht hw hr.q
  refine j_aload_n (p2 := 190) dM_step_189 rfl rfl ?_
  refine j_dload_n (p2 := 191) dM_step_190 rfl rfl ?_
  refine j_callV (m' := mM_stage) (As := [_]) (p2 := 194) dM_step_191 rfl ml_M_307 ok_mM_stage im_mM_stage se_mM_stage rfl rfl (Nat.le_of_ble_eq_true rfl) ly_69 rfl (Nat.le_of_ble_eq_true rfl) ⟨(Nat.le_of_ble_eq_true rfl), (Nat.le_of_ble_eq_true rfl)⟩ ?_
  refine cM_stage ht hw.n hw.l hw.1.1.2.2.2.2.1 (hw.s hr.q) ?_
  refine j_aload_n (p2 := 195) dM_step_194 rfl rfl ?_
  refine j_callV (m' := mM_readAll) (As := []) (p2 := 198) dM_step_195 rfl ml_M_311 ok_mM_readAll im_mM_readAll se_mM_readAll rfl rfl (Nat.le_of_ble_eq_true rfl) ly_69 rfl (Nat.le_of_ble_eq_true rfl) ⟨(Nat.le_of_ble_eq_true rfl), (Nat.le_of_ble_eq_true rfl)⟩ ?_
  refine cM_readAll w1.1.1 w1.1.2.1 (fun hg => ?_)
  have w2 := fr_r hw hr ht hg
  refine j_aload_n (p2 := 199) dM_step_198 rfl rfl ?_
  refine j_callV (m' := mM_rateAll) (As := []) (p2 := 202) dM_step_199 rfl ml_M_301 ok_mM_rateAll im_mM_rateAll se_mM_rateAll rfl rfl (Nat.le_of_ble_eq_true rfl) ly_69 rfl (Nat.le_of_ble_eq_true rfl) ⟨(Nat.le_of_ble_eq_true rfl), (Nat.le_of_ble_eq_true rfl)⟩ ?_
  have w3 := ra_W w2
  refine cM_rateAll w2.n w2.c w2.1.2.1 ?_
  refine j_iconst (p2 := 203) dM_step_202 rfl ?_
  refine j_istore_n (p2 := 204) (lv' := [(0, _), (1, _), (3, _)]) dM_step_203 rfl (Nat.le_of_ble_eq_true rfl) ⟨rfl, rfl, rfl, trivial⟩ ?_
  refine J.loc (lv' := [(0, _), (1, _), (3, _)]) ⟨rfl, rfl, rfl, trivial⟩ ?_
  have w4 := ad_W w3.1 (fr_105 h5) (fz_105 z5) w3.2
  refine st_B w3.1.n (fr_105 h5) w3.2 ?_
  refine j_aload_n (p2 := 257) dM_step_256 rfl rfl ?_
  refine j_dload_n (p2 := 258) dM_step_257 rfl rfl ?_
  refine j_ldc2d (p2 := 261) dM_step_258 rfl cw_M_314 ?_
  refine j_ddiv (p2 := 262) dM_step_261 rfl (by exact ht2.nn (by decide)) ?_
  refine j_callV (m' := mM_stage) (As := [_]) (p2 := 265) dM_step_262 rfl ml_M_307 ok_mM_stage im_mM_stage se_mM_stage rfl rfl (Nat.le_of_ble_eq_true rfl) ly_69 rfl (Nat.le_of_ble_eq_true rfl) ⟨(Nat.le_of_ble_eq_true rfl), (Nat.le_of_ble_eq_true rfl)⟩ ?_
  refine cM_stage ht2 w4.1.n w4.1.l w4.1.1.1.2.2.2.2.1 (w4.1.s w4.2) ?_
  refine j_goto (p2 := 456) dM_step_265 (by decide) ?_
  refine J.loc (lv' := [(0, _)]) ⟨rfl, trivial⟩ ?_
  exact k (sg_W ht2 w4.1 w4.2)
theorem st_mid {t : UInt64} (hw : WT σ N) (hr : Rb σ 115 116 N) (ht : mg t 1024) (ht2 : mg (FP.ddiv t 4611686018427387904) 1024) (hru : 0 ≤ hI σ 69 13 ∧ hI σ 69 13 ≤ 2) (h5 : Rb σ 105 109 N) (z5 : Zc σ 105 109 N)
    (k : WT (midH σ N t (hI σ 69 13)) N → J mM_step 456 [(0, vR 69)] [] (midH σ N t (hI σ 69 13)) Q) : J mM_step 166 [(0, vR 69), (1, vD t)] [] σ Q := by
  unfold midH at k
  refine j_aload_n (p2 := 167) dM_step_166 rfl rfl ?_
  refine j_getIk (p2 := 170) dM_step_167 rfl fa_M_210 ly_69 rfl (ki := 13) rfl ?_
  refine j_if_ne (p2 := 173) (tg := 181) dM_step_170 rfl (by decide) (by constructor <;> omega) (fun h170 => ?_) (fun h170 => ?_)
  · refine j_aload_n (p2 := 182) dM_step_181 rfl rfl ?_
    refine j_getIk (p2 := 185) dM_step_182 rfl fa_M_210 ly_69 rfl (ki := 13) rfl ?_
    refine j_iconst (p2 := 186) dM_step_185 rfl ?_
    refine j_icmp_ne (p2 := 189) (tg := 268) dM_step_186 rfl (by decide) (by constructor <;> omega) (by constructor <;> omega) (fun h186 => ?_) (fun h186 => ?_)
    · refine J.loc (lv' := [(0, _), (1, _)]) ⟨rfl, rfl, trivial⟩ ?_
      rw [if_neg h170, if_neg h186] at k
      refine st_k2 hw hr ht2 (fun w1 r1 => ?_)
      have a5 := fk2_105 (fr_105 (t := FP.ddiv t 4611686018427387904) h5)
      have b5 := fl2_105 (fz_105 (t := FP.ddiv t 4611686018427387904) z5)
      have a6 := kr_W2 r1
      have b6 := kr_Z2 w1.2.1
      have w2 := kr2_WT w1
      have r2 := kr2_Rb r1
      change WT (k2H σ N (FP.ddiv t 4611686018427387904)) N at w2
      change Rb (k2H σ N (FP.ddiv t 4611686018427387904)) 115 116 N at r2
      change Rb (k2H σ N (FP.ddiv t 4611686018427387904)) 105 109 N at a5
      change Zc (k2H σ N (FP.ddiv t 4611686018427387904)) 105 109 N at b5
      change Rb (k2H σ N (FP.ddiv t 4611686018427387904)) 106 110 N at a6
      change Zc (k2H σ N (FP.ddiv t 4611686018427387904)) 106 110 N at b6
      clear w1 r1
      unfold r2H at k
      generalize k2H σ N (FP.ddiv t 4611686018427387904) = τ at *
      refine st_k3 w2 r2 ht2 (fun w3 r3 => ?_)
      exact st_k4 (kr3_WT w3) (kr3_Rb r3) ht (fk3_105 (fr_105 a5)) (fl3_105 (fz_105 b5)) (fk3_106 (fr_106 a6)) (fl3_106 (fz_106 b6)) (kr_W3 r3) (kr_Z3 w3.2.1) k
    · refine J.loc (lv' := [(0, _), (1, _)]) ⟨rfl, rfl, trivial⟩ ?_
      rw [if_neg h170, if_pos h186] at k
      exact st_r1 hw hr ht ht2 h5 z5 k
  · refine j_aload_n (p2 := 174) dM_step_173 rfl rfl ?_
    refine j_dload_n (p2 := 175) dM_step_174 rfl rfl ?_
    refine j_callV (m' := mM_stage) (As := [_]) (p2 := 178) dM_step_175 rfl ml_M_307 ok_mM_stage im_mM_stage se_mM_stage rfl rfl (Nat.le_of_ble_eq_true rfl) ly_69 rfl (Nat.le_of_ble_eq_true rfl) ⟨(Nat.le_of_ble_eq_true rfl), (Nat.le_of_ble_eq_true rfl)⟩ ?_
    rw [if_pos h170] at k
    refine cM_stage ht hw.n hw.l hw.1.1.2.2.2.2.1 (hw.s hr.q) ?_
    refine j_goto (p2 := 456) dM_step_178 (by decide) ?_
    refine J.loc (lv' := [(0, _)]) ⟨rfl, trivial⟩ ?_
    exact k (sg_W ht hw hr.q)
theorem cM_step (hw : WS σ N) (hz : Zr σ N) (ht : mg (hD σ 69 45) 1023) (hru : 0 ≤ hI σ 69 13 ∧ hI σ 69 13 ≤ 2) (hQ : WT (stepH σ N) N → Q none (stepH σ N)) : Sp mM_step [vR 69] σ Q := by
  have ht2 := mg_half ht
  have w1 := p1_W hw hz
  have w2 := ra_W w1
  have w3 : WT (s0H σ N) N := w2.1
  have b3 : Rb (s0H σ N) 105 109 N := kr_W1 w2.2
  have z3 : Zc (s0H σ N) 105 109 N := kr_Z1 w2.1.2.1
  have c3 : Rb (s0H σ N) 115 116 N := w2.2
  refine st_A hw ?_
  refine j_aload_n (p2 := 158) dM_step_157 rfl rfl ?_
  refine j_callV (m' := mM_rateAll) (As := []) (p2 := 161) dM_step_158 rfl ml_M_301 ok_mM_rateAll im_mM_rateAll se_mM_rateAll rfl rfl (Nat.le_of_ble_eq_true rfl) ly_69 rfl (Nat.le_of_ble_eq_true rfl) ⟨(Nat.le_of_ble_eq_true rfl), (Nat.le_of_ble_eq_true rfl)⟩ ?_
  refine cM_rateAll w1.n w1.c w1.1.2.1 ?_
  refine j_aload_n (p2 := 162) dM_step_161 rfl rfl ?_
  refine j_iconst (p2 := 163) dM_step_162 rfl ?_
  refine j_callV (m' := mM_keepRates) (As := [_]) (p2 := 166) dM_step_163 rfl ml_M_304 ok_mM_keepRates im_mM_keepRates se_mM_keepRates rfl rfl (Nat.le_of_ble_eq_true rfl) ly_69 rfl (Nat.le_of_ble_eq_true rfl) ⟨(Nat.le_of_ble_eq_true rfl), (Nat.le_of_ble_eq_true rfl)⟩ ?_
  refine cM_keepRates1 w2.1.n ?_
  refine J.loc (lv' := [(0, _), (1, _)]) ⟨rfl, rfl, trivial⟩ ?_
  refine st_mid (σ := s0H σ N) w3 c3 (ht.mono (by decide)) (ht2.mono (by decide)) hru b3 z3 (fun w4 => ?_)
  exact st_end w4 hQ
end REF13
