/-! ===== a step of the reference, as two twins see it ===== -/
section PJ2
variable {τ : Hp} {N : Nat} {PD : Pt UInt64} {PF : Pt UInt32} {rD : Int → UInt64} {rF : Int → UInt32} {sd f : Int → Int} {t : Int} {x : X3 UInt64} {y : X3 UInt32} {bD K nD : Int → UInt64} {bF KF nF : Int → UInt32}
theorem kq_ra105 {l : UInt64} (h : Kq τ 105 109 N K KF) : Kq (raH (rdN (sgH τ l N) N) N) 105 109 N K KF := by
  have e1 : hD (raH (rdN (sgH τ l N) N) N) 105 = hD τ 105 := rfl
  have e2 : hF (raH (rdN (sgH τ l N) N) N) 109 = hF τ 109 := rfl
  have e3 : hI (raH (rdN (sgH τ l N) N) N) 70 = hI τ 70 := rfl
  intro m p q r
  rw [e3] at r
  rw [e1, e2]; exact h m p q r
theorem kq_ra106 {l : UInt64} (h : Kq τ 106 110 N K KF) : Kq (raH (rdN (sgH τ l N) N) N) 106 110 N K KF := by
  have e1 : hD (raH (rdN (sgH τ l N) N) N) 106 = hD τ 106 := rfl
  have e2 : hF (raH (rdN (sgH τ l N) N) N) 110 = hF τ 110 := rfl
  have e3 : hI (raH (rdN (sgH τ l N) N) N) 70 = hI τ 70 := rfl
  intro m p q r
  rw [e3] at r
  rw [e1, e2]; exact h m p q r
theorem kq_ra107 {l : UInt64} (h : Kq τ 107 111 N K KF) : Kq (raH (rdN (sgH τ l N) N) N) 107 111 N K KF := by
  have e1 : hD (raH (rdN (sgH τ l N) N) N) 107 = hD τ 107 := rfl
  have e2 : hF (raH (rdN (sgH τ l N) N) N) 111 = hF τ 111 := rfl
  have e3 : hI (raH (rdN (sgH τ l N) N) N) 70 = hI τ 70 := rfl
  intro m p q r
  rw [e3] at r
  rw [e1, e2]; exact h m p q r
theorem kq_kr2_105 (h : Kq τ 105 109 N K KF) : Kq (krH2 τ N) 105 109 N K KF := by
  have e1 : hD (krH2 τ N) 105 = hD τ 105 := rfl
  have e2 : hF (krH2 τ N) 109 = hF τ 109 := rfl
  have e3 : hI (krH2 τ N) 70 = hI τ 70 := rfl
  intro m p q r
  rw [e3] at r
  rw [e1, e2]; exact h m p q r
theorem kq_kr3_105 (h : Kq τ 105 109 N K KF) : Kq (krH3 τ N) 105 109 N K KF := by
  have e1 : hD (krH3 τ N) 105 = hD τ 105 := rfl
  have e2 : hF (krH3 τ N) 109 = hF τ 109 := rfl
  have e3 : hI (krH3 τ N) 70 = hI τ 70 := rfl
  intro m p q r
  rw [e3] at r
  rw [e1, e2]; exact h m p q r
theorem kq_kr3_106 (h : Kq τ 106 110 N K KF) : Kq (krH3 τ N) 106 110 N K KF := by
  have e1 : hD (krH3 τ N) 106 = hD τ 106 := rfl
  have e2 : hF (krH3 τ N) 110 = hF τ 110 := rfl
  have e3 : hI (krH3 τ N) 70 = hI τ 70 := rfl
  intro m p q r
  rw [e3] at r
  rw [e1, e2]; exact h m p q r
theorem bn_ra {l : UInt64} (h : Bq τ N bD bF) (h2 : Nq τ N nD nF) : Bq (raH (rdN (sgH τ l N) N) N) N bD bF ∧ Nq (raH (rdN (sgH τ l N) N) N) N nD nF := by
  have e1 : hD (raH (rdN (sgH τ l N) N) N) 108 = hD τ 108 := rfl
  have e2 : hF (raH (rdN (sgH τ l N) N) N) 112 = hF τ 112 := rfl
  have e3 : hI (raH (rdN (sgH τ l N) N) N) 70 = hI τ 70 := rfl
  have e4 : hD (raH (rdN (sgH τ l N) N) N) 113 = hD τ 113 := rfl
  have e5 : hF (raH (rdN (sgH τ l N) N) N) 114 = hF τ 114 := rfl
  refine ⟨fun m p q => ?_, fun m p q r => ?_⟩
  · rw [e1, e2]; exact h m p q
  · rw [e3] at r
    rw [e4, e5]; exact h2 m p q r
theorem bn_ad (h : Bq τ N bD bF) (h2 : Nq τ N nD nF) : Bq (adH τ N) N bD bF ∧ Nq (adH τ N) N nD nF := by
  have e1 : hD (adH τ N) 108 = hD τ 108 := rfl
  have e2 : hF (adH τ N) 112 = hF τ 112 := rfl
  have e3 : hI (adH τ N) 70 = hI τ 70 := rfl
  have e4 : hD (adH τ N) 113 = hD τ 113 := rfl
  have e5 : hF (adH τ N) 114 = hF τ 114 := rfl
  refine ⟨fun m p q => ?_, fun m p q r => ?_⟩
  · rw [e1, e2]; exact h m p q
  · rw [e3] at r
    rw [e4, e5]; exact h2 m p q r
theorem bn_wg (h : Bq τ N bD bF) (h2 : Nq τ N nD nF) : Bq (wgH τ N) N bD bF ∧ Nq (wgH τ N) N nD nF := by
  have e1 : hD (wgH τ N) 108 = hD τ 108 := rfl
  have e2 : hF (wgH τ N) 112 = hF τ 112 := rfl
  have e3 : hI (wgH τ N) 70 = hI τ 70 := rfl
  have e4 : hD (wgH τ N) 113 = hD τ 113 := rfl
  have e5 : hF (wgH τ N) 114 = hF τ 114 := rfl
  refine ⟨fun m p q => ?_, fun m p q r => ?_⟩
  · rw [e1, e2]; exact h m p q
  · rw [e3] at r
    rw [e4, e5]; exact h2 m p q r
theorem bn_kr1 (h : Bq τ N bD bF) (h2 : Nq τ N nD nF) : Bq (krH1 τ N) N bD bF ∧ Nq (krH1 τ N) N nD nF := by
  have e1 : hD (krH1 τ N) 108 = hD τ 108 := rfl
  have e2 : hF (krH1 τ N) 112 = hF τ 112 := rfl
  have e3 : hI (krH1 τ N) 70 = hI τ 70 := rfl
  have e4 : hD (krH1 τ N) 113 = hD τ 113 := rfl
  have e5 : hF (krH1 τ N) 114 = hF τ 114 := rfl
  refine ⟨fun m p q => ?_, fun m p q r => ?_⟩
  · rw [e1, e2]; exact h m p q
  · rw [e3] at r
    rw [e4, e5]; exact h2 m p q r
theorem bn_kr2 (h : Bq τ N bD bF) (h2 : Nq τ N nD nF) : Bq (krH2 τ N) N bD bF ∧ Nq (krH2 τ N) N nD nF := by
  have e1 : hD (krH2 τ N) 108 = hD τ 108 := rfl
  have e2 : hF (krH2 τ N) 112 = hF τ 112 := rfl
  have e3 : hI (krH2 τ N) 70 = hI τ 70 := rfl
  have e4 : hD (krH2 τ N) 113 = hD τ 113 := rfl
  have e5 : hF (krH2 τ N) 114 = hF τ 114 := rfl
  refine ⟨fun m p q => ?_, fun m p q r => ?_⟩
  · rw [e1, e2]; exact h m p q
  · rw [e3] at r
    rw [e4, e5]; exact h2 m p q r
theorem bn_kr3 (h : Bq τ N bD bF) (h2 : Nq τ N nD nF) : Bq (krH3 τ N) N bD bF ∧ Nq (krH3 τ N) N nD nF := by
  have e1 : hD (krH3 τ N) 108 = hD τ 108 := rfl
  have e2 : hF (krH3 τ N) 112 = hF τ 112 := rfl
  have e3 : hI (krH3 τ N) 70 = hI τ 70 := rfl
  have e4 : hD (krH3 τ N) 113 = hD τ 113 := rfl
  have e5 : hF (krH3 τ N) 114 = hF τ 114 := rfl
  refine ⟨fun m p q => ?_, fun m p q r => ?_⟩
  · rw [e1, e2]; exact h m p q
  · rw [e3] at r
    rw [e4, e5]; exact h2 m p q r
theorem bn_r (h : Bq τ N bD bF) (h2 : Nq τ N nD nF) : Bq (raH τ N) N bD bF ∧ Nq (raH τ N) N nD nF := by
  have e1 : hD (raH τ N) 108 = hD τ 108 := rfl
  have e2 : hF (raH τ N) 112 = hF τ 112 := rfl
  have e3 : hI (raH τ N) 70 = hI τ 70 := rfl
  have e4 : hD (raH τ N) 113 = hD τ 113 := rfl
  have e5 : hF (raH τ N) 114 = hF τ 114 := rfl
  refine ⟨fun m p q => ?_, fun m p q r => ?_⟩
  · rw [e1, e2]; exact h m p q
  · rw [e3] at r
    rw [e4, e5]; exact h2 m p q r
theorem bn_sg {l : UInt64} (h : Bq τ N bD bF) (h2 : Nq τ N nD nF) : Bq (sgH τ l N) N bD bF ∧ Nq (sgH τ l N) N nD nF := by
  have e1 : hD (sgH τ l N) 108 = hD τ 108 := rfl
  have e2 : hF (sgH τ l N) 112 = hF τ 112 := rfl
  have e3 : hI (sgH τ l N) 70 = hI τ 70 := rfl
  have e4 : hD (sgH τ l N) 113 = hD τ 113 := rfl
  have e5 : hF (sgH τ l N) 114 = hF τ 114 := rfl
  refine ⟨fun m p q => ?_, fun m p q r => ?_⟩
  · rw [e1, e2]; exact h m p q
  · rw [e3] at r
    rw [e4, e5]; exact h2 m p q r
theorem vw_r1 {l : UInt64} (h : Vw τ N PD PF rD rF sd f t x y) (hb : Bq τ N bD bF) (hn : Nq τ N nD nF) (h1 : Kq τ 115 116 N K KF) (h5 : Kq τ 105 109 N K KF) : Vw (r1H τ N l) N PD PF rD rF sd f t (gR1 arD PD rD l (FP.ddiv l 4611686018427387904) bD K x) (gR1 arF PF rF (FP.d2f l) (FP.d2f (FP.ddiv l 4611686018427387904)) bF KF y) ∧ Nq (r1H τ N l) N nD nF := by
  have v1 := vw_ph (l := l) h hb h1
  have v2 := vw_ra v1
  have k5 := kq_ra105 (l := l) h5
  obtain ⟨b2, n2⟩ := bn_ra (l := l) hb hn
  unfold r1H
  generalize raH (rdN (sgH τ l N) N) N = ω at *
  have v3 := vw_ad v2.1 k5 v2.2
  obtain ⟨b3, n3⟩ := bn_ad b2 n2
  generalize adH ω N = ψ at *
  unfold gR1
  exact ⟨vw_sg v3.1 b3 v3.2, (bn_sg b3 n3).2⟩
theorem vw_k2 {l : UInt64} (h : Vw τ N PD PF rD rF sd f t x y) (hb : Bq τ N bD bF) (hn : Nq τ N nD nF) (h1 : Kq τ 115 116 N K KF) {K1 : Int → UInt64} {KF1 : Int → UInt32} (h5 : Kq τ 105 109 N K1 KF1) : Vw (k2H τ N l) N PD PF rD rF sd f t (gPh arD PD rD l bD K x) (gPh arF PF rF (FP.d2f l) bF KF y) ∧ Bq (k2H τ N l) N bD bF ∧ Nq (k2H τ N l) N nD nF ∧ Kq (k2H τ N l) 115 116 N (gK arD PD (gPh arD PD rD l bD K x).1) (gK arF PF (gPh arF PF rF (FP.d2f l) bF KF y).1) ∧ Kq (k2H τ N l) 105 109 N K1 KF1 ∧ Kq (k2H τ N l) 106 110 N (gK arD PD (gPh arD PD rD l bD K x).1) (gK arF PF (gPh arF PF rF (FP.d2f l) bF KF y).1) := by
  have v1 := vw_ph (l := l) h hb h1
  have v2 := vw_ra v1
  have k5 := kq_ra105 (l := l) h5
  obtain ⟨b2, n2⟩ := bn_ra (l := l) hb hn
  unfold k2H
  generalize raH (rdN (sgH τ l N) N) N = ω at *
  obtain ⟨w1, w2, w3⟩ := vw_kr2 v2.1 v2.2
  obtain ⟨b3, n3⟩ := bn_kr2 b2 n2
  exact ⟨w1, b3, n3, w2, kq_kr2_105 k5, w3⟩
theorem vw_k3 {l : UInt64} (h : Vw τ N PD PF rD rF sd f t x y) (hb : Bq τ N bD bF) (hn : Nq τ N nD nF) (h1 : Kq τ 115 116 N K KF) {K1 K2 : Int → UInt64} {KF1 KF2 : Int → UInt32} (h5 : Kq τ 105 109 N K1 KF1) (h6 : Kq τ 106 110 N K2 KF2) : Vw (k3H τ N l) N PD PF rD rF sd f t (gPh arD PD rD l bD K x) (gPh arF PF rF (FP.d2f l) bF KF y) ∧ Bq (k3H τ N l) N bD bF ∧ Nq (k3H τ N l) N nD nF ∧ Kq (k3H τ N l) 115 116 N (gK arD PD (gPh arD PD rD l bD K x).1) (gK arF PF (gPh arF PF rF (FP.d2f l) bF KF y).1) ∧ Kq (k3H τ N l) 105 109 N K1 KF1 ∧ Kq (k3H τ N l) 106 110 N K2 KF2 ∧ Kq (k3H τ N l) 107 111 N (gK arD PD (gPh arD PD rD l bD K x).1) (gK arF PF (gPh arF PF rF (FP.d2f l) bF KF y).1) := by
  have v1 := vw_ph (l := l) h hb h1
  have v2 := vw_ra v1
  have k5 := kq_ra105 (l := l) h5
  have k6 := kq_ra106 (l := l) h6
  obtain ⟨b2, n2⟩ := bn_ra (l := l) hb hn
  unfold k3H
  generalize raH (rdN (sgH τ l N) N) N = ω at *
  obtain ⟨w1, w2, w3⟩ := vw_kr3 v2.1 v2.2
  obtain ⟨b3, n3⟩ := bn_kr3 b2 n2
  exact ⟨w1, b3, n3, w2, kq_kr3_105 k5, kq_kr3_106 k6, w3⟩
theorem vw_r2 {l : UInt64} (h : Vw τ N PD PF rD rF sd f t x y) (hb : Bq τ N bD bF) (hn : Nq τ N nD nF) (h1 : Kq τ 115 116 N K KF) (h5 : Kq τ 105 109 N K KF) : Vw (r2H τ N l) N PD PF rD rF sd f t (gR2 arD PD rD l (FP.ddiv l 4611686018427387904) bD K x) (gR2 arF PF rF (FP.d2f l) (FP.d2f (FP.ddiv l 4611686018427387904)) bF KF y) ∧ Nq (r2H τ N l) N nD nF := by
  obtain ⟨a1, a2, a3, a4, a5, a6⟩ := vw_k2 (l := FP.ddiv l 4611686018427387904) h hb hn h1 h5
  unfold r2H gR2
  dsimp only
  generalize k2H τ N (FP.ddiv l 4611686018427387904) = ω at *
  generalize gPh arD PD rD (FP.ddiv l 4611686018427387904) bD K x = x2 at *
  generalize gPh arF PF rF (FP.d2f (FP.ddiv l 4611686018427387904)) bF KF y = y2 at *
  obtain ⟨b1, b2, b3, b4, b5, b6, b7⟩ := vw_k3 (l := FP.ddiv l 4611686018427387904) a1 a2 a3 a4 a5 a6
  generalize k3H ω N (FP.ddiv l 4611686018427387904) = ψ at *
  generalize gPh arD PD rD (FP.ddiv l 4611686018427387904) bD (gK arD PD x2.1) x2 = x3 at *
  generalize gPh arF PF rF (FP.d2f (FP.ddiv l 4611686018427387904)) bF (gK arF PF y2.1) y2 = y3 at *
  have v1 := vw_ph (l := l) b1 b2 b4
  have v2 := vw_ra v1
  have k5 := kq_ra105 (l := l) b5
  have k6 := kq_ra106 (l := l) b6
  have k7 := kq_ra107 (l := l) b7
  obtain ⟨c2, c3⟩ := bn_ra (l := l) b2 b3
  generalize raH (rdN (sgH ψ l N) N) N = χ at *
  have v3 := vw_wg v2.1 k5 k6 k7 v2.2
  obtain ⟨d2, d3⟩ := bn_wg c2 c3
  generalize wgH χ N = ξ at *
  exact ⟨vw_sg v3.1 d2 v3.2, (bn_sg d2 d3).2⟩
theorem vw_mid {l : UInt64} {r : Int} (h : Vw τ N PD PF rD rF sd f t x y) (hb : Bq τ N bD bF) (hn : Nq τ N nD nF) (h1 : Kq τ 115 116 N K KF) (h5 : Kq τ 105 109 N K KF) : Vw (midH τ N l r) N PD PF rD rF sd f t (if r = 0 then gMo arD PD l bD K x else if r = 1 then gR1 arD PD rD l (FP.ddiv l 4611686018427387904) bD K x else gR2 arD PD rD l (FP.ddiv l 4611686018427387904) bD K x) (if r = 0 then gMo arF PF (FP.d2f l) bF KF y else if r = 1 then gR1 arF PF rF (FP.d2f l) (FP.d2f (FP.ddiv l 4611686018427387904)) bF KF y else gR2 arF PF rF (FP.d2f l) (FP.d2f (FP.ddiv l 4611686018427387904)) bF KF y) ∧ Nq (midH τ N l r) N nD nF := by
  unfold midH
  by_cases g0 : r = 0
  · rw [if_pos g0, if_pos g0, if_pos g0]
    exact ⟨vw_sg h hb h1, (bn_sg hb hn).2⟩
  · rw [if_neg g0, if_neg g0, if_neg g0]
    by_cases g1 : r = 1
    · rw [if_pos g1, if_pos g1, if_pos g1]
      exact vw_r1 h hb hn h1 h5
    · rw [if_neg g1, if_neg g1, if_neg g1]
      exact vw_r2 h hb hn h1 h5
theorem vw_0 : Vw τ N (ptD τ N) (ptF τ N) (hD τ 84) (hF τ 85) (hI τ 86) (hI τ 87) (hI τ 69 44) (hD τ 82, hD τ 80, fun _ => false) (hF τ 83, hF τ 81, fun _ => false) := by
  refine ⟨rfl, rfl, ⟨rfl, rfl, rfl, rfl⟩, ⟨rfl, rfl, rfl⟩, ?_, rfl⟩
  have e : (fun k : Int => (fun _ : Int => false) k || (fun _ : Int => false) k) = fun _ => false := rfl
  show hI τ 87 = lms (hI τ 87) (hI τ 69 44) (fun k : Int => (fun _ : Int => false) k || (fun _ : Int => false) k)
  rw [e, lms_0]
/-- the first phase -/
theorem vw_s0 : Vw (s0H τ N) N (ptD τ N) (ptF τ N) (hD τ 84) (hF τ 85) (hI τ 86) (hI τ 87) (hI τ 69 44) (hD τ 82, hD τ 80, fun _ => false) (hF τ 83, hF τ 81, fun _ => false) ∧ Bq (s0H τ N) N (hD τ 80) (hF τ 81) ∧ Nq (s0H τ N) N (gnx arD (hI τ 70) (hI τ 72) (hI τ 73) (hD τ 82) (hD τ 80)) (gnx arF (hI τ 70) (hI τ 72) (hI τ 73) (hF τ 83) (hF τ 81)) ∧ Kq (s0H τ N) 115 116 N (gK arD (ptD τ N) (hD τ 82)) (gK arF (ptF τ N) (hF τ 83)) ∧ Kq (s0H τ N) 105 109 N (gK arD (ptD τ N) (hD τ 82)) (gK arF (ptF τ N) (hF τ 83)) := by
  have v0 : Vw (p1H τ N) N (ptD τ N) (ptF τ N) (hD τ 84) (hF τ 85) (hI τ 86) (hI τ 87) (hI τ 69 44) (hD τ 82, hD τ 80, fun _ => false) (hF τ 83, hF τ 81, fun _ => false) := vw_0 (τ := τ) (N := N)
  have b0 : Bq (p1H τ N) N (hD τ 80) (hF τ 81) := fun m p q => ⟨pw_lo (f := hD τ 108) (g := hD τ 80) p q, pw_lo (f := hF τ 112) (g := hF τ 81) p q⟩
  have n0 : Nq (p1H τ N) N (gnx arD (hI τ 70) (hI τ 72) (hI τ 73) (hD τ 82) (hD τ 80)) (gnx arF (hI τ 70) (hI τ 72) (hI τ 73) (hF τ 83) (hF τ 81)) := fun m p q r => by
    have e1 : hD (p1H τ N) 113 m = nxS arD (hI τ 70) (hI τ 72) (hI τ 73) (hD τ 82) (hD τ 80) (hD τ 113) m := pw_lo p q
    have e2 : hF (p1H τ N) 114 m = nxS arF (hI τ 70) (hI τ 72) (hI τ 73) (hF τ 83) (hF τ 81) (hF τ 114) m := pw_lo p q
    have r : hI τ 70 m = 3 ∨ hI τ 70 m = 11 := r
    rw [e1, e2]
    unfold nxS gnx
    rcases r with r | r
    · rw [if_pos r, if_pos r, if_pos r, if_pos r]; exact ⟨rfl, rfl⟩
    · have r3 : ¬ hI τ 70 m = 3 := by omega
      simp only [if_neg r3, if_pos r, and_self]
  have v1 := vw_ra v0
  obtain ⟨b1, n1⟩ := bn_r b0 n0
  unfold s0H
  generalize raH (p1H τ N) N = ω at *
  obtain ⟨w1, w2, w3⟩ := vw_kr1 v1.1 v1.2
  obtain ⟨b2, n2⟩ := bn_kr1 b1 n1
  exact ⟨w1, b2, n2, w2, w3⟩
theorem vw_end (h : Vw τ N PD PF rD rF sd f t x y) (hn : Nq τ N nD nF) : ∃ xs : Ts UInt64 × (Int → Bool), ∃ ys : Ts UInt32 × (Int → Bool), xs = ((let st := pw x.2.1 (othS (pK PD) nD x.2.1 (fun m => zcD (sdS (pK PD) sd m))) (pN PD); let row := pw rD (rowS (pK PD) (pNn PD) rD nD) (16 * pN PD); let q := gRd arD PD row st x.1; ((q.1, st, row, pw sd (sdS (pK PD) sd) (pN PD)), fun k => x.2.2 k || q.2 k))) ∧ ys = ((let st := pw y.2.1 (othS (pK PF) nF y.2.1 (fun m => zcF (sdS (pK PF) sd m))) (pN PF); let row := pw rF (rowS (pK PF) (pNn PF) rF nF) (16 * pN PF); let q := gRd arF PF row st y.1; ((q.1, st, row, pw sd (sdS (pK PF) sd) (pN PF)), fun k => y.2.2 k || q.2 k))) ∧
    ptD (endH τ N) N = PD ∧ ptF (endH τ N) N = PF ∧ tsD (endH τ N) = xs.1 ∧ tsF (endH τ N) = ys.1 ∧ hI (endH τ N) 87 = lms f t (fun k => xs.2 k || ys.2 k) ∧ hD (endH τ N) 88 = pw (hD τ 88) (fun m => gdf (xs.1.1 m) (ys.1.1 m) (hD τ 88 m)) N := by
  refine ⟨_, _, rfl, rfl, ?_⟩
  dsimp only
  obtain ⟨E1, E2, E3, E4, E5, E6, E7, E8, E9, E10, E11, E12⟩ := vw_E h
  have esd : pw sd (sdS (pK PD) sd) (pN PD) = pw sd (sdS (pK PF) sd) (pN PF) := by rw [E1, E2, E7, E8]
  have v1 := vw_ot h hn
  have v2 : Vw (tmH (otH τ N)) N _ _ _ _ _ _ _ _ _ := v1
  have e88 : hD (tmH (otH τ N)) 88 = hD τ 88 := rfl
  unfold endH
  generalize tmH (otH τ N) = ω at *
  have v3 := vw_rd v2
  have e88 : hD (rdN ω N) 88 = hD τ 88 := e88
  generalize rdN ω N = ψ at *
  clear v1 v2 h hn
  obtain ⟨h1, h2, ⟨a1, a2, a3, a4⟩, ⟨b1, b2, b3⟩, c1, c2⟩ := v3
  dsimp only at a1 a2 a3 a4 c1
  have d88 : hD (dfH ψ N) 88 = pw (hD ψ 88) (fun m => gdf (hD ψ 82 m) (hF ψ 83 m) (hD ψ 88 m)) N := rfl
  refine ⟨h1, h2, ?_, ?_, c1, ?_⟩
  · show (hD ψ 82, hD ψ 80, hD ψ 84, hI ψ 86) = _
    rw [a1, a2, b1, b3]
  · show (hF ψ 83, hF ψ 81, hF ψ 85, hI ψ 86) = _
    rw [a3, a4, b2, b3, esd]
  · rw [d88, e88, a1, a3]
/-- a step of the reference -/
theorem step_vw : ptD (stepH τ N) N = ptD τ N ∧ ptF (stepH τ N) N = ptF τ N ∧ tsD (stepH τ N) = (gstep arD zcD (ptD τ N) (hD τ 69 45) (FP.ddiv (hD τ 69 45) 4611686018427387904) (tsD τ)).1 ∧ tsF (stepH τ N) = (gstep arF zcF (ptF τ N) (FP.d2f (hD τ 69 45)) (FP.d2f (FP.ddiv (hD τ 69 45) 4611686018427387904)) (tsF τ)).1 ∧
    hI (stepH τ N) 87 = lms (hI τ 87) (hI τ 69 44) (fun k => (gstep arD zcD (ptD τ N) (hD τ 69 45) (FP.ddiv (hD τ 69 45) 4611686018427387904) (tsD τ)).2 k || (gstep arF zcF (ptF τ N) (FP.d2f (hD τ 69 45)) (FP.d2f (FP.ddiv (hD τ 69 45) 4611686018427387904)) (tsF τ)).2 k) ∧
    hD (stepH τ N) 88 = pw (hD τ 88) (fun m => gdf ((gstep arD zcD (ptD τ N) (hD τ 69 45) (FP.ddiv (hD τ 69 45) 4611686018427387904) (tsD τ)).1.1 m) ((gstep arF zcF (ptF τ N) (FP.d2f (hD τ 69 45)) (FP.d2f (FP.ddiv (hD τ 69 45) 4611686018427387904)) (tsF τ)).1.1 m) (hD τ 88 m)) N := by
  obtain ⟨v, b, n, k1, k5⟩ := vw_s0 (τ := τ) (N := N)
  have e88 : hD (s0H τ N) 88 = hD τ 88 := rfl
  obtain ⟨v2, n2⟩ := vw_mid (l := hD τ 69 45) (r := hI τ 69 13) v b n k1 k5
  have m88 : hD (midH (s0H τ N) N (hD τ 69 45) (hI τ 69 13)) 88 = hD τ 88 := by
    unfold midH
    by_cases g0 : hI τ 69 13 = 0
    · rw [if_pos g0]; exact e88
    · rw [if_neg g0]
      by_cases g1 : hI τ 69 13 = 1
      · rw [if_pos g1]; exact e88
      · rw [if_neg g1]; exact e88
  obtain ⟨xs, ys, hxs, hys, r1, r2, r3, r4, r5, r6⟩ := vw_end v2 n2
  have g1 : xs = gstep arD zcD (ptD τ N) (hD τ 69 45) (FP.ddiv (hD τ 69 45) 4611686018427387904) (tsD τ) := hxs
  have g2 : ys = gstep arF zcF (ptF τ N) (FP.d2f (hD τ 69 45)) (FP.d2f (FP.ddiv (hD τ 69 45) 4611686018427387904)) (tsF τ) := hys
  rw [m88] at r6
  rw [← g1, ← g2]
  exact ⟨r1, r2, r3, r4, r5, r6⟩
end PJ2
