/-! ===== a step of the reference is a step of two twins ===== -/
theorem or4 (a b c d : Bool) : ((a || b) || (c || d)) = ((a || c) || (b || d)) := by cases a <;> cases b <;> cases c <;> cases d <;> rfl
abbrev X3 (α : Type) : Type := (Int → α) × (Int → α) × (Int → Bool)
/-- the two twins, as the reference's heap has them -/
abbrev Vw (τ : Hp) (N : Nat) (PD : Pt UInt64) (PF : Pt UInt32) (rD : Int → UInt64) (rF : Int → UInt32) (sd f : Int → Int) (t : Int) (x : X3 UInt64) (y : X3 UInt32) : Prop :=
  ptD τ N = PD ∧ ptF τ N = PF ∧ (hD τ 82 = x.1 ∧ hD τ 80 = x.2.1 ∧ hF τ 83 = y.1 ∧ hF τ 81 = y.2.1) ∧ (hD τ 84 = rD ∧ hF τ 85 = rF ∧ hI τ 86 = sd) ∧ hI τ 87 = lms f t (fun k => x.2.2 k || y.2.2 k) ∧ hI τ 69 44 = t
abbrev Bq (τ : Hp) (N : Nat) (bD : Int → UInt64) (bF : Int → UInt32) : Prop := ∀ m : Int, 0 ≤ m → m < N → hD τ 108 m = bD m ∧ hF τ 112 m = bF m
abbrev Kq (τ : Hp) (a b N : Nat) (K : Int → UInt64) (KF : Int → UInt32) : Prop := ∀ m : Int, 0 ≤ m → m < N → hI τ 70 m = 2 → hD τ a m = K m ∧ hF τ b m = KF m
abbrev Nq (τ : Hp) (N : Nat) (nD : Int → UInt64) (nF : Int → UInt32) : Prop := ∀ m : Int, 0 ≤ m → m < N → hI τ 70 m = 3 ∨ hI τ 70 m = 11 → hD τ 113 m = nD m ∧ hF τ 114 m = nF m
section PJ
variable {τ : Hp} {N : Nat} {PD : Pt UInt64} {PF : Pt UInt32} {rD : Int → UInt64} {rF : Int → UInt32} {sd f : Int → Int} {t : Int} {x : X3 UInt64} {y : X3 UInt32} {bD K : Int → UInt64} {bF KF : Int → UInt32}
theorem vw_E (h : Vw τ N PD PF rD rF sd f t x y) : pK PD = hI τ 70 ∧ pN PD = N ∧ pFr PD = hI τ 72 ∧ pTu PD = hI τ 73 ∧ pOr PD = ords (hI τ 79) N ∧ pNn PD = nnR τ ∧ pK PF = hI τ 70 ∧ pN PF = N ∧ pFr PF = hI τ 72 ∧ pTu PF = hI τ 73 ∧ pOr PF = ords (hI τ 79) N ∧ pNn PF = nnR τ := by
  obtain ⟨h1, h2, _⟩ := h
  subst h1
  subst h2
  exact ⟨rfl, rfl, rfl, rfl, rfl, rfl, rfl, rfl, rfl, rfl, rfl, rfl⟩
/-- moved -/
theorem vw_sg {l : UInt64} (h : Vw τ N PD PF rD rF sd f t x y) (hb : Bq τ N bD bF) (hk : Kq τ 115 116 N K KF) : Vw (sgH τ l N) N PD PF rD rF sd f t (gMo arD PD l bD K x) (gMo arF PF (FP.d2f l) bF KF y) := by
  obtain ⟨E1, E2, E3, E4, E5, E6, E7, E8, E9, E10, E11, E12⟩ := vw_E h
  obtain ⟨h1, h2, ⟨a1, a2, a3, a4⟩, ⟨b1, b2, b3⟩, c1, c2⟩ := h
  have s1 : hD (sgH τ l N) 80 = gMs arD PD l bD K x.2.1 := by
    have e : hD (sgH τ l N) 80 = pw (hD τ 80) (gmvS arD (hI τ 70) l (hD τ 108) (hD τ 115) (hD τ 80)) N := rfl
    rw [e, a2, mvS_cg (fun m p q r => ⟨(hb m p q).1, (hk m p q r).1⟩)]
    unfold gMs; rw [E1, E2]
  have s2 : hF (sgH τ l N) 81 = gMs arF PF (FP.d2f l) bF KF y.2.1 := by
    have e : hF (sgH τ l N) 81 = pw (hF τ 81) (gmvS arF (hI τ 70) (FP.d2f l) (hF τ 112) (hF τ 116) (hF τ 81)) N := rfl
    rw [e, a4, mvS_cg (fun m p q r => ⟨(hb m p q).2, (hk m p q r).2⟩)]
    unfold gMs; rw [E7, E8]
  have l1 : hI (sgH τ l N) 87 = lms f t (fun k => (x.2.2 k || gMb arD PD l bD K k) || (y.2.2 k || gMb arF PF (FP.d2f l) bF KF k)) := by
    rw [sgH_L, c2, c1, lms_lms, mvB_cg (A := arD) (bf' := bD) (ra' := K) (fun m p q r => ⟨(hb m p q).1, (hk m p q r).1⟩), mvB_cg (A := arF) (bf' := bF) (ra' := KF) (fun m p q r => ⟨(hb m p q).2, (hk m p q r).2⟩)]
    apply congrArg
    funext k
    unfold gMb
    rw [E1, E2, E7, E8, or4]
  exact ⟨h1, h2, ⟨a1, s1, a3, s2⟩, ⟨b1, b2, b3⟩, l1, c2⟩
/-- read -/
theorem vw_rd (h : Vw τ N PD PF rD rF sd f t x y) : Vw (rdN τ N) N PD PF rD rF sd f t ((gRd arD PD rD x.2.1 x.1).1, x.2.1, fun k => x.2.2 k || (gRd arD PD rD x.2.1 x.1).2 k) ((gRd arF PF rF y.2.1 y.1).1, y.2.1, fun k => y.2.2 k || (gRd arF PF rF y.2.1 y.1).2 k) := by
  obtain ⟨E1, E2, E3, E4, E5, E6, E7, E8, E9, E10, E11, E12⟩ := vw_E h
  obtain ⟨h1, h2, ⟨a1, a2, a3, a4⟩, ⟨b1, b2, b3⟩, c1, c2⟩ := h
  have vD : evD τ = pEv PD rD x.2.1 := by rw [← h1, ← b1, ← a2]; rfl
  have vF : evF τ = pEv PF rF y.2.1 := by rw [← h2, ← b2, ← a4]; rfl
  have q1 : rdD τ (ords (hI τ 79) N) = gRd arD PD rD x.2.1 x.1 := by unfold rdD gRd; rw [vD, a1, E5]
  have q2 : rdF τ (ords (hI τ 79) N) = gRd arF PF rF y.2.1 y.1 := by unfold rdF gRd; rw [vF, a3, E11]
  have s1 : hD (rdN τ N) 82 = (gRd arD PD rD x.2.1 x.1).1 := by rw [← q1]; rfl
  have s2 : hF (rdN τ N) 83 = (gRd arF PF rF y.2.1 y.1).1 := by rw [← q2]; rfl
  have l1 : hI (rdN τ N) 87 = lms f t (fun k => (x.2.2 k || (gRd arD PD rD x.2.1 x.1).2 k) || (y.2.2 k || (gRd arF PF rF y.2.1 y.1).2 k)) := by
    have e : hI (rdN τ N) 87 = lms (hI τ 87) (hI τ 69 44) (fun k => (rdD τ (ords (hI τ 79) N)).2 k || (rdF τ (ords (hI τ 79) N)).2 k) := rfl
    rw [e, c2, c1, lms_lms, q1, q2]
    apply congrArg
    funext k
    rw [or4]
  exact ⟨h1, h2, ⟨s1, a2, s2, a4⟩, ⟨b1, b2, b3⟩, l1, c2⟩
/-- moved and read -/
theorem vw_ph {l : UInt64} (h : Vw τ N PD PF rD rF sd f t x y) (hb : Bq τ N bD bF) (hk : Kq τ 115 116 N K KF) : Vw (rdN (sgH τ l N) N) N PD PF rD rF sd f t (gPh arD PD rD l bD K x) (gPh arF PF rF (FP.d2f l) bF KF y) := by
  have h3 := vw_rd (vw_sg (l := l) h hb hk)
  unfold gMo at h3
  dsimp only at h3
  unfold gPh
  exact h3
/-- the rates -/
theorem vw_ra (h : Vw τ N PD PF rD rF sd f t x y) : Vw (raH τ N) N PD PF rD rF sd f t x y ∧ Kq (raH τ N) 115 116 N (gK arD PD x.1) (gK arF PF y.1) := by
  obtain ⟨E1, E2, E3, E4, E5, E6, E7, E8, E9, E10, E11, E12⟩ := vw_E h
  refine ⟨h, fun m p q r => ?_⟩
  obtain ⟨h1, h2, ⟨a1, a2, a3, a4⟩, _⟩ := h
  have r : hI τ 70 m = 2 := r
  have e1 : hD (raH τ N) 115 m = gsm arD (hI τ 70) (hI τ 72) (hI τ 73) (hD τ 82) (hD τ 115) m := pw_lo p q
  have e2 : hF (raH τ N) 116 m = gsm arF (hI τ 70) (hI τ 72) (hI τ 73) (hF τ 83) (hF τ 116) m := pw_lo p q
  rw [e1, e2]
  unfold gsm
  rw [if_pos r, if_pos r, a1, a3]
  unfold gK gra
  rw [E3, E4, E9, E10]
  exact ⟨rfl, rfl⟩
theorem vw_kr1 (h : Vw τ N PD PF rD rF sd f t x y) (hk : Kq τ 115 116 N K KF) : Vw (krH1 τ N) N PD PF rD rF sd f t x y ∧ Kq (krH1 τ N) 115 116 N K KF ∧ Kq (krH1 τ N) 105 109 N K KF := by
  refine ⟨h, hk, fun m p q r => ?_⟩
  have e1 : hD (krH1 τ N) 105 m = hD τ 115 m := pw_lo p q
  have e2 : hF (krH1 τ N) 109 m = hF τ 116 m := pw_lo p q
  rw [e1, e2]
  exact hk m p q r
theorem vw_kr2 (h : Vw τ N PD PF rD rF sd f t x y) (hk : Kq τ 115 116 N K KF) : Vw (krH2 τ N) N PD PF rD rF sd f t x y ∧ Kq (krH2 τ N) 115 116 N K KF ∧ Kq (krH2 τ N) 106 110 N K KF := by
  refine ⟨h, hk, fun m p q r => ?_⟩
  have e1 : hD (krH2 τ N) 106 m = hD τ 115 m := pw_lo p q
  have e2 : hF (krH2 τ N) 110 m = hF τ 116 m := pw_lo p q
  rw [e1, e2]
  exact hk m p q r
theorem vw_kr3 (h : Vw τ N PD PF rD rF sd f t x y) (hk : Kq τ 115 116 N K KF) : Vw (krH3 τ N) N PD PF rD rF sd f t x y ∧ Kq (krH3 τ N) 115 116 N K KF ∧ Kq (krH3 τ N) 107 111 N K KF := by
  refine ⟨h, hk, fun m p q r => ?_⟩
  have e1 : hD (krH3 τ N) 107 m = hD τ 115 m := pw_lo p q
  have e2 : hF (krH3 τ N) 111 m = hF τ 116 m := pw_lo p q
  rw [e1, e2]
  exact hk m p q r
theorem vw_ad {K2 : Int → UInt64} {KF2 : Int → UInt32} (h : Vw τ N PD PF rD rF sd f t x y) (h1 : Kq τ 105 109 N K KF) (h2 : Kq τ 115 116 N K2 KF2) : Vw (adH τ N) N PD PF rD rF sd f t x y ∧ Kq (adH τ N) 115 116 N (fun m => Aadd arD (K m) (K2 m)) (fun m => Aadd arF (KF m) (KF2 m)) := by
  refine ⟨h, fun m p q r => ?_⟩
  have e1 : hD (adH τ N) 115 m = Aadd arD (hD τ 105 m) (hD τ 115 m) := pw_lo (f := hD τ 115) (g := fun m => Aadd arD (hD τ 105 m) (hD τ 115 m)) p q
  have e2 : hF (adH τ N) 116 m = Aadd arF (hF τ 109 m) (hF τ 116 m) := pw_lo (f := hF τ 116) (g := fun m => Aadd arF (hF τ 109 m) (hF τ 116 m)) p q
  rw [e1, e2, (h1 m p q r).1, (h1 m p q r).2, (h2 m p q r).1, (h2 m p q r).2]
  exact ⟨rfl, rfl⟩
theorem vw_wg {K2 K3 K4 : Int → UInt64} {KF2 KF3 KF4 : Int → UInt32} (h : Vw τ N PD PF rD rF sd f t x y) (h1 : Kq τ 105 109 N K KF) (h2 : Kq τ 106 110 N K2 KF2) (h3 : Kq τ 107 111 N K3 KF3) (h4 : Kq τ 115 116 N K4 KF4) : Vw (wgH τ N) N PD PF rD rF sd f t x y ∧ Kq (wgH τ N) 115 116 N (fun m => gwg arD (K m) (K2 m) (K3 m) (K4 m)) (fun m => gwg arF (KF m) (KF2 m) (KF3 m) (KF4 m)) := by
  refine ⟨h, fun m p q r => ?_⟩
  have e1 : hD (wgH τ N) 115 m = gwg arD (hD τ 105 m) (hD τ 106 m) (hD τ 107 m) (hD τ 115 m) := pw_lo (f := hD τ 115) (g := fun m => gwg arD (hD τ 105 m) (hD τ 106 m) (hD τ 107 m) (hD τ 115 m)) p q
  have e2 : hF (wgH τ N) 116 m = gwg arF (hF τ 109 m) (hF τ 110 m) (hF τ 111 m) (hF τ 116 m) := pw_lo (f := hF τ 116) (g := fun m => gwg arF (hF τ 109 m) (hF τ 110 m) (hF τ 111 m) (hF τ 116 m)) p q
  rw [e1, e2, (h1 m p q r).1, (h1 m p q r).2, (h2 m p q r).1, (h2 m p q r).2, (h3 m p q r).1, (h3 m p q r).2, (h4 m p q r).1, (h4 m p q r).2]
  exact ⟨rfl, rfl⟩
/-- what else is remembered -/
theorem vw_ot {nD : Int → UInt64} {nF : Int → UInt32} (h : Vw τ N PD PF rD rF sd f t x y) (hn : Nq τ N nD nF) : Vw (otH τ N) N PD PF (pw rD (rowS (pK PD) (pNn PD) rD nD) (16 * pN PD)) (pw rF (rowS (pK PF) (pNn PF) rF nF) (16 * pN PF)) (pw sd (sdS (pK PD) sd) (pN PD)) f t (x.1, pw x.2.1 (othS (pK PD) nD x.2.1 (fun m => zcD (sdS (pK PD) sd m))) (pN PD), x.2.2) (y.1, pw y.2.1 (othS (pK PF) nF y.2.1 (fun m => zcF (sdS (pK PF) sd m))) (pN PF), y.2.2) := by
  obtain ⟨E1, E2, E3, E4, E5, E6, E7, E8, E9, E10, E11, E12⟩ := vw_E h
  obtain ⟨h1, h2, ⟨a1, a2, a3, a4⟩, ⟨b1, b2, b3⟩, c1, c2⟩ := h
  have s1 : hD (otH τ N) 80 = pw x.2.1 (othS (pK PD) nD x.2.1 (fun m => zcD (sdS (pK PD) sd m))) (pN PD) := by
    have e : hD (otH τ N) 80 = pw (hD τ 80) (othS (hI τ 70) (hD τ 113) (hD τ 80) (fun m => nz (sdS (hI τ 70) (hI τ 86) m))) N := rfl
    rw [e, a2, b3, E1, E2]
    exact oth_cg (fun m p q r => (hn m p q (Or.inl r)).1)
  have s2 : hF (otH τ N) 81 = pw y.2.1 (othS (pK PF) nF y.2.1 (fun m => zcF (sdS (pK PF) sd m))) (pN PF) := by
    have e : hF (otH τ N) 81 = pw (hF τ 81) (othS (hI τ 70) (hF τ 114) (hF τ 81) (fun m => FP.d2f (nz (sdS (hI τ 70) (hI τ 86) m)))) N := rfl
    rw [e, a4, b3, E7, E8]
    exact oth_cg (fun m p q r => (hn m p q (Or.inl r)).2)
  have s3 : hD (otH τ N) 84 = pw rD (rowS (pK PD) (pNn PD) rD nD) (16 * pN PD) := by
    have e : hD (otH τ N) 84 = pw (hD τ 84) (rowS (hI τ 70) (nnR τ) (hD τ 84) (hD τ 113)) (16 * N) := rfl
    rw [e, b1, E1, E2, E6]
    exact row_cg (fun m p q r => (hn m p q (Or.inr r)).1)
  have s4 : hF (otH τ N) 85 = pw rF (rowS (pK PF) (pNn PF) rF nF) (16 * pN PF) := by
    have e : hF (otH τ N) 85 = pw (hF τ 85) (rowS (hI τ 70) (nnR τ) (hF τ 85) (hF τ 114)) (16 * N) := rfl
    rw [e, b2, E7, E8, E12]
    exact row_cg (fun m p q r => (hn m p q (Or.inr r)).2)
  have s5 : hI (otH τ N) 86 = pw sd (sdS (pK PD) sd) (pN PD) := by
    have e : hI (otH τ N) 86 = pw (hI τ 86) (sdS (hI τ 70) (hI τ 86)) N := rfl
    rw [e, b3, E1, E2]
  exact ⟨h1, h2, ⟨a1, s1, a3, s2⟩, ⟨s3, s4, s5⟩, c1, c2⟩
end PJ
