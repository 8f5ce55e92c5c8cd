/-! ===== the class's twins: a step ===== -/
theorem lms_lms (f : Int → Int) (t : Int) (b c : Int → Bool) : lms (lms f t b) t c = lms f t (fun k => b k || c k) := by
  funext m
  unfold lms
  cases hb : b m <;> cases hc : c m <;> by_cases hf : f m = -1 <;> by_cases ht : t = -1 <;> simp_all
abbrev OrdC (σ : Hp) (L : List Int) (N : Nat) : Prop := hI σ 15 3 = L.length ∧ L.length ≤ 20 ∧ (∀ i : Nat, ∀ x : Int, L[i]? = some x → hI σ 17 i = x ∧ 0 ≤ x ∧ x < N)
theorem gra_mrD {fr tu : Int → Int} {r : Int → UInt64} {N : Nat} {m : Int} (h1 : ∀ i : Int, 0 ≤ i → i < 6 → -1 ≤ fr (6 * m + i) ∧ fr (6 * m + i) < N) (hr : ∀ k : Int, 0 ≤ k → k < N → BdD (r k)) : MrD (gra arD fr tu r m) :=
  gsum_mg (fun j hj h => by have := h1 j (by omega) (by omega); exact hr _ (by omega) (by omega)) 6 (by omega)
theorem gra_mrF {fr tu : Int → Int} {r : Int → UInt32} {N : Nat} {m : Int} (h1 : ∀ i : Int, 0 ≤ i → i < 6 → -1 ≤ fr (6 * m + i) ∧ fr (6 * m + i) < N) (hr : ∀ k : Int, 0 ≤ k → k < N → BdF (r k)) : MrF (gra arF fr tu r m) :=
  gsum_mf (fun j hj h => by have := h1 j (by omega) (by omega); exact hr _ (by omega) (by omega)) 6 (by omega)
def Pcd (σ : Hp) (fr : Int → Int) (se : Int → UInt64) (nn : Int → Int) (L : List Int) (N : Nat) : Pt UInt64 := (hI σ 4, se, fr, hI σ 10, (hD σ 12), (hD σ 13), hI σ 11, nn, L, N, hI σ 3 1)
/-- states, as they are in the twin -/
abbrev Std (σ : Hp) (st : Int → UInt64) (N : Nat) : Prop := ∀ m : Int, 0 ≤ m → m < N → hD σ 24 m = cvD (st m) ∧ BdD (st m)
abbrev Ahd (σ : Hp) (st : Int → UInt64) (N : Nat) : Prop := ∀ m : Int, 0 ≤ m → m < N → hD σ 28 m = cvD (st m) ∧ BdD (st m)
abbrev Lpd (σ : Hp) (N : Nat) : Prop := (∀ m : Int, 0 ≤ m → m < N → inR (hI σ 20 m)) ∧ inR (hI σ 19 1)
/-- what stays over a step: patch, order, settings, rows -/
abbrev Cxd (σ : Hp) (fr : Int → Int) (se : Int → UInt64) (nn : Int → Int) (row : Int → UInt64) (L : List Int) (N : Nat) (P : Pt UInt64) : Prop := Pcd σ fr se nn L N = P ∧ CtI σ fr N ∧ hI σ 21 3 = 0 ∧ PatW σ fr N ∧ OrdC σ L N ∧ (∀ m : Int, 0 ≤ m → m < N → hD σ 23 m = cvD (se m) ∧ (hI σ 4 m = 10 ∨ hI σ 4 m = 12 → BdD (se m))) ∧ ∀ m : Int, 0 ≤ m → m < N → hI σ 4 m = 11 → RgXD (hD σ 25) (hI σ 26) nn row m ∧ SCmp (hD σ 23 m) (nn m)
abbrev Krd (σ : Hp) (c : Nat) (K : Int → UInt64) (N : Nat) : Prop := ∀ m : Int, 0 ≤ m → m < N → hI σ 4 m = 2 → hD σ c m = cvD (K m) ∧ MrD (K m)
theorem cxd_mv {σ τ : Hp} {fr : Int → Int} {se : Int → UInt64} {nn : Int → Int} {row : Int → UInt64} {L : List Int} {N : Nat} {P : Pt UInt64} (F : Fq [22, 24, 28, 29, 30, 31, 32, 33, 20] σ τ) (h : Cxd σ fr se nn row L N P) : Cxd τ fr se nn row L N P := by
  have e3 := F.I (c := 3) (by decide)
  have e4 := F.I (c := 4) (by decide)
  have e9 := F.I (c := 9) (by decide)
  have e10 := F.I (c := 10) (by decide)
  have e11 := F.I (c := 11) (by decide)
  have e12 := F.D (c := 12) (by decide)
  have e13 := F.D (c := 13) (by decide)
  have e15 := F.I (c := 15) (by decide)
  have e17 := F.I (c := 17) (by decide)
  have eb := F.I (c := 21) (by decide)
  have ese := F.D (c := 23) (by decide)
  have erw := F.D (c := 25) (by decide)
  have eol := F.I (c := 26) (by decide)
  unfold Cxd Pcd CtI PatW OrdC at h ⊢
  rw [e3, e4, e9, e10, e11, e12, e13, e15, e17, eb, ese, erw, eol]
  exact h
theorem cxd_mo {σ : Hp} {fr : Int → Int} {se : Int → UInt64} {nn : Int → Int} {row st : Int → UInt64} {L : List Int} {N : Nat} {P : Pt UInt64} (h : Cxd σ fr se nn row L N P) (hs : Std σ st N) : ∀ m : Int, 0 ≤ m → m < N → Mod σ fr se row st m := fun m x y => by
  obtain ⟨h1, h2, h3, h4, h5, h6, h7⟩ := h
  obtain ⟨p1, p2, p3, p4⟩ := h4 m x y
  refine ⟨h6 m x y, hs m x y, fun k => ?_, p1, p2⟩
  obtain ⟨⟨g1, g2, g3⟩, _⟩ := h7 m x y k
  have g4 := g3 0 (by omega) (by omega)
  have e : rix (hI σ 26 m) 0 (nn m) = hI σ 26 m := by unfold rix; rw [if_pos (by omega)]; omega
  rw [e, Int.add_zero] at g4
  exact ⟨by omega, g4⟩
theorem cxd_E {σ : Hp} {fr : Int → Int} {se : Int → UInt64} {nn : Int → Int} {row row2 st : Int → UInt64} {L : List Int} {N : Nat} {P : Pt UInt64} (h : Cxd σ fr se nn row2 L N P) : pEv P row st = Ecd σ fr se row st ∧ pOr P = L ∧ pN P = N ∧ pK P = hI σ 4 ∧ pFr P = fr ∧ pTu P = hI σ 10 ∧ pNn P = nn ∧ pRu P = hI σ 3 1 := by
  obtain ⟨h1, _⟩ := h
  subst h1
  exact ⟨rfl, rfl, rfl, rfl, rfl, rfl, rfl, rfl⟩
def Pcf (σ : Hp) (fr : Int → Int) (se : Int → UInt32) (nn : Int → Int) (L : List Int) (N : Nat) : Pt UInt32 := (hI σ 4, se, fr, hI σ 10, xF (hD σ 12), xF (hD σ 13), hI σ 11, nn, L, N, hI σ 3 1)
/-- states, as they are in the twin -/
abbrev Stf (σ : Hp) (st : Int → UInt32) (N : Nat) : Prop := ∀ m : Int, 0 ≤ m → m < N → hD σ 37 m = cvF (st m) ∧ BdF (st m)
abbrev Ahf (σ : Hp) (st : Int → UInt32) (N : Nat) : Prop := ∀ m : Int, 0 ≤ m → m < N → hD σ 41 m = cvF (st m) ∧ BdF (st m)
abbrev Lpf (σ : Hp) (N : Nat) : Prop := (∀ m : Int, 0 ≤ m → m < N → inR (hI σ 20 m)) ∧ inR (hI σ 19 1)
/-- what stays over a step: patch, order, settings, rows -/
abbrev Cxf (σ : Hp) (fr : Int → Int) (se : Int → UInt32) (nn : Int → Int) (row : Int → UInt32) (L : List Int) (N : Nat) (P : Pt UInt32) : Prop := Pcf σ fr se nn L N = P ∧ CtI σ fr N ∧ hI σ 34 3 = 1 ∧ PatW σ fr N ∧ OrdC σ L N ∧ (∀ m : Int, 0 ≤ m → m < N → hD σ 36 m = cvF (se m) ∧ (hI σ 4 m = 10 ∨ hI σ 4 m = 12 → BdF (se m))) ∧ ∀ m : Int, 0 ≤ m → m < N → hI σ 4 m = 11 → RgXF (hD σ 38) (hI σ 39) nn row m ∧ SCmp (hD σ 36 m) (nn m)
abbrev Krf (σ : Hp) (c : Nat) (K : Int → UInt32) (N : Nat) : Prop := ∀ m : Int, 0 ≤ m → m < N → hI σ 4 m = 2 → hD σ c m = cvF (K m) ∧ MrF (K m)
theorem cxf_mv {σ τ : Hp} {fr : Int → Int} {se : Int → UInt32} {nn : Int → Int} {row : Int → UInt32} {L : List Int} {N : Nat} {P : Pt UInt32} (F : Fq [35, 37, 41, 42, 43, 44, 45, 46, 20] σ τ) (h : Cxf σ fr se nn row L N P) : Cxf τ fr se nn row L N P := by
  have e3 := F.I (c := 3) (by decide)
  have e4 := F.I (c := 4) (by decide)
  have e9 := F.I (c := 9) (by decide)
  have e10 := F.I (c := 10) (by decide)
  have e11 := F.I (c := 11) (by decide)
  have e12 := F.D (c := 12) (by decide)
  have e13 := F.D (c := 13) (by decide)
  have e15 := F.I (c := 15) (by decide)
  have e17 := F.I (c := 17) (by decide)
  have eb := F.I (c := 34) (by decide)
  have ese := F.D (c := 36) (by decide)
  have erw := F.D (c := 38) (by decide)
  have eol := F.I (c := 39) (by decide)
  unfold Cxf Pcf CtI PatW OrdC at h ⊢
  rw [e3, e4, e9, e10, e11, e12, e13, e15, e17, eb, ese, erw, eol]
  exact h
theorem cxf_mo {σ : Hp} {fr : Int → Int} {se : Int → UInt32} {nn : Int → Int} {row st : Int → UInt32} {L : List Int} {N : Nat} {P : Pt UInt32} (h : Cxf σ fr se nn row L N P) (hs : Stf σ st N) : ∀ m : Int, 0 ≤ m → m < N → Mof σ fr se row st m := fun m x y => by
  obtain ⟨h1, h2, h3, h4, h5, h6, h7⟩ := h
  obtain ⟨p1, p2, p3, p4⟩ := h4 m x y
  refine ⟨h6 m x y, hs m x y, fun k => ?_, p1, p2⟩
  obtain ⟨⟨g1, g2, g3⟩, _⟩ := h7 m x y k
  have g4 := g3 0 (by omega) (by omega)
  have e : rix (hI σ 39 m) 0 (nn m) = hI σ 39 m := by unfold rix; rw [if_pos (by omega)]; omega
  rw [e, Int.add_zero] at g4
  exact ⟨by omega, g4⟩
theorem cxf_E {σ : Hp} {fr : Int → Int} {se : Int → UInt32} {nn : Int → Int} {row row2 st : Int → UInt32} {L : List Int} {N : Nat} {P : Pt UInt32} (h : Cxf σ fr se nn row2 L N P) : pEv P row st = Ecf σ fr se row st ∧ pOr P = L ∧ pN P = N ∧ pK P = hI σ 4 ∧ pFr P = fr ∧ pTu P = hI σ 10 ∧ pNn P = nn ∧ pRu P = hI σ 3 1 := by
  obtain ⟨h1, _⟩ := h
  subst h1
  exact ⟨rfl, rfl, rfl, rfl, rfl, rfl, rfl, rfl⟩
def Pct (σ : Hp) (fr : Int → Int) (se : Int → UInt64) (nn : Int → Int) (L : List Int) (N : Nat) : Pt UInt64 := (hI σ 4, se, fr, hI σ 10, (hD σ 12), (hD σ 13), hI σ 11, nn, L, N, hI σ 3 1)
/-- states, as they are in the twin -/
abbrev Stt (σ : Hp) (st : Int → UInt64) (N : Nat) : Prop := ∀ m : Int, 0 ≤ m → m < N → hD σ 59 m = cvD (st m) ∧ BdD (st m)
abbrev Aht (σ : Hp) (st : Int → UInt64) (N : Nat) : Prop := ∀ m : Int, 0 ≤ m → m < N → hD σ 63 m = cvD (st m) ∧ BdD (st m)
abbrev Lpt (σ : Hp) (N : Nat) : Prop := (∀ m : Int, 0 ≤ m → m < N → inR (hI σ 55 m)) ∧ inR (hI σ 54 1)
/-- what stays over a step: patch, order, settings, rows -/
abbrev Cxt (σ : Hp) (fr : Int → Int) (se : Int → UInt64) (nn : Int → Int) (row : Int → UInt64) (L : List Int) (N : Nat) (P : Pt UInt64) : Prop := Pct σ fr se nn L N = P ∧ CtI σ fr N ∧ hI σ 56 3 = 0 ∧ PatW σ fr N ∧ OrdC σ L N ∧ (∀ m : Int, 0 ≤ m → m < N → hD σ 58 m = cvD (se m) ∧ (hI σ 4 m = 10 ∨ hI σ 4 m = 12 → BdD (se m))) ∧ ∀ m : Int, 0 ≤ m → m < N → hI σ 4 m = 11 → RgXD (hD σ 60) (hI σ 61) nn row m ∧ SCmp (hD σ 58 m) (nn m)
abbrev Krt (σ : Hp) (c : Nat) (K : Int → UInt64) (N : Nat) : Prop := ∀ m : Int, 0 ≤ m → m < N → hI σ 4 m = 2 → hD σ c m = cvD (K m) ∧ MrD (K m)
theorem cxt_mv {σ τ : Hp} {fr : Int → Int} {se : Int → UInt64} {nn : Int → Int} {row : Int → UInt64} {L : List Int} {N : Nat} {P : Pt UInt64} (F : Fq [57, 59, 63, 64, 65, 66, 67, 68, 55] σ τ) (h : Cxt σ fr se nn row L N P) : Cxt τ fr se nn row L N P := by
  have e3 := F.I (c := 3) (by decide)
  have e4 := F.I (c := 4) (by decide)
  have e9 := F.I (c := 9) (by decide)
  have e10 := F.I (c := 10) (by decide)
  have e11 := F.I (c := 11) (by decide)
  have e12 := F.D (c := 12) (by decide)
  have e13 := F.D (c := 13) (by decide)
  have e15 := F.I (c := 15) (by decide)
  have e17 := F.I (c := 17) (by decide)
  have eb := F.I (c := 56) (by decide)
  have ese := F.D (c := 58) (by decide)
  have erw := F.D (c := 60) (by decide)
  have eol := F.I (c := 61) (by decide)
  unfold Cxt Pct CtI PatW OrdC at h ⊢
  rw [e3, e4, e9, e10, e11, e12, e13, e15, e17, eb, ese, erw, eol]
  exact h
theorem cxt_mo {σ : Hp} {fr : Int → Int} {se : Int → UInt64} {nn : Int → Int} {row st : Int → UInt64} {L : List Int} {N : Nat} {P : Pt UInt64} (h : Cxt σ fr se nn row L N P) (hs : Stt σ st N) : ∀ m : Int, 0 ≤ m → m < N → Mot σ fr se row st m := fun m x y => by
  obtain ⟨h1, h2, h3, h4, h5, h6, h7⟩ := h
  obtain ⟨p1, p2, p3, p4⟩ := h4 m x y
  refine ⟨h6 m x y, hs m x y, fun k => ?_, p1, p2⟩
  obtain ⟨⟨g1, g2, g3⟩, _⟩ := h7 m x y k
  have g4 := g3 0 (by omega) (by omega)
  have e : rix (hI σ 61 m) 0 (nn m) = hI σ 61 m := by unfold rix; rw [if_pos (by omega)]; omega
  rw [e, Int.add_zero] at g4
  exact ⟨by omega, g4⟩
theorem cxt_E {σ : Hp} {fr : Int → Int} {se : Int → UInt64} {nn : Int → Int} {row row2 st : Int → UInt64} {L : List Int} {N : Nat} {P : Pt UInt64} (h : Cxt σ fr se nn row2 L N P) : pEv P row st = Ect σ fr se row st ∧ pOr P = L ∧ pN P = N ∧ pK P = hI σ 4 ∧ pFr P = fr ∧ pTu P = hI σ 10 ∧ pNn P = nn ∧ pRu P = hI σ 3 1 := by
  obtain ⟨h1, _⟩ := h
  subst h1
  exact ⟨rfl, rfl, rfl, rfl, rfl, rfl, rfl, rfl⟩
section TWC8
variable {σ : Hp} {Q : Option PV → Hp → Prop}
theorem cTd_stage1 {fr : Int → Int} {se : Int → UInt64} {nn : Int → Int} {row bf K : Int → UInt64} {L : List Int} {N : Nat} {P : Pt UInt64} {x : (Int → UInt64) × (Int → UInt64) × (Int → Bool)} {h : UInt64} {len : UInt64} {f : Int → Int} {t : Int} (hx : Cxd σ fr se nn row L N P) (hl : Lpd σ N) (hlm : hI σ 20 = lms f t x.2.2 ∧ hI σ 19 1 = t) (hlen : len = cvD h) (hh : MhD h) (hr : Rdd σ x.1 N) (hs : Std σ x.2.1 N) (hb : Ahd σ bf N) (hK : Krd σ 30 K N)
    (hQ : ∀ τ, Fq [24, 22, 20, 31] σ τ → Cxd τ fr se nn row L N P → Lpd τ N → hI τ 20 = lms f t (gPh arD P row h bf K x).2.2 ∧ hI τ 19 1 = t → Rdd τ (gPh arD P row h bf K x).1 N → Std τ (gPh arD P row h bf K x).2.1 N → Krd τ 31 (gK arD P (gPh arD P row h bf K x).1) N → Q none τ) : Sp mT_stage [vR 21, vR 30, vD len, vR 31] σ Q := by
  obtain ⟨E1, E2, E3, E4, E5, E6, E7, E8⟩ := cxd_E (row := row) (st := gMs arD P h bf K x.2.1) hx
  have hc := hx.2.1
  have fin : ∀ S a k, (∀ q : Int, (N : Int) ≤ q → a q = hD σ 22 q) → (∀ m : Int, 0 ≤ m → m < N → S m = cvD (gMs arD P h bf K x.2.1 m) ∧ BdD (gMs arD P h bf K x.2.1 m)) → (∀ q : Int, 0 ≤ q → q < N → a q = cvD ((gPh arD P row h bf K x).1 q) ∧ BdD ((gPh arD P row h bf K x).1 q)) → (∀ m : Int, 0 ≤ m → m < N → hI σ 4 m = 2 → k m = cvD (gra arD fr (hI σ 10) (gPh arD P row h bf K x).1 m)) → Q none (wD (wI (wD (wI (wD σ 24 S) 20 (lms (hI σ 20) (hI σ 19 1) (gMb arD P h bf K))) 22 a) 20 (lms (lms (hI σ 20) (hI σ 19 1) (gMb arD P h bf K)) (hI σ 19 1) (gRd arD P row (gMs arD P h bf K x.2.1) x.1).2)) 31 k) := by
    intro S a k hta hS ha hk
    have F : Fq [24, 22, 20, 31] σ (wD (wI (wD (wI (wD σ 24 S) 20 (lms (hI σ 20) (hI σ 19 1) (gMb arD P h bf K))) 22 a) 20 (lms (lms (hI σ 20) (hI σ 19 1) (gMb arD P h bf K)) (hI σ 19 1) (gRd arD P row (gMs arD P h bf K x.2.1) x.1).2)) 31 k) :=
      ((((Fq.rf.wD (by decide)).wI (by decide)).wR (by decide) (by exact k20d ha (fun q q0 => hta q q0))).wI (by decide)).wD (by decide)
    have el : hI (wD (wI (wD (wI (wD σ 24 S) 20 (lms (hI σ 20) (hI σ 19 1) (gMb arD P h bf K))) 22 a) 20 (lms (lms (hI σ 20) (hI σ 19 1) (gMb arD P h bf K)) (hI σ 19 1) (gRd arD P row (gMs arD P h bf K x.2.1) x.1).2)) 31 k) 20 = lms (lms (hI σ 20) (hI σ 19 1) (gMb arD P h bf K)) (hI σ 19 1) (gRd arD P row (gMs arD P h bf K x.2.1) x.1).2 := rfl
    have es : hD (wD (wI (wD (wI (wD σ 24 S) 20 (lms (hI σ 20) (hI σ 19 1) (gMb arD P h bf K))) 22 a) 20 (lms (lms (hI σ 20) (hI σ 19 1) (gMb arD P h bf K)) (hI σ 19 1) (gRd arD P row (gMs arD P h bf K x.2.1) x.1).2)) 31 k) 24 = S := rfl
    have er : hD (wD (wI (wD (wI (wD σ 24 S) 20 (lms (hI σ 20) (hI σ 19 1) (gMb arD P h bf K))) 22 a) 20 (lms (lms (hI σ 20) (hI σ 19 1) (gMb arD P h bf K)) (hI σ 19 1) (gRd arD P row (gMs arD P h bf K x.2.1) x.1).2)) 31 k) 22 = a := rfl
    have ek : hD (wD (wI (wD (wI (wD σ 24 S) 20 (lms (hI σ 20) (hI σ 19 1) (gMb arD P h bf K))) 22 a) 20 (lms (lms (hI σ 20) (hI σ 19 1) (gMb arD P h bf K)) (hI σ 19 1) (gRd arD P row (gMs arD P h bf K x.2.1) x.1).2)) 31 k) 31 = k := rfl
    generalize wD (wI (wD (wI (wD σ 24 S) 20 (lms (hI σ 20) (hI σ 19 1) (gMb arD P h bf K))) 22 a) 20 (lms (lms (hI σ 20) (hI σ 19 1) (gMb arD P h bf K)) (hI σ 19 1) (gRd arD P row (gMs arD P h bf K x.2.1) x.1).2)) 31 k = τ at F el es er ek ⊢
    have elo := F.I (c := 19) (by decide)
    have e4 := F.I (c := 4) (by decide)
    refine hQ τ F (cxd_mv (F.weak (by decide)) hx) ⟨fun m z y => ?_, ?_⟩ ⟨?_, ?_⟩ (fun q q0 q1 => ?_) (fun m z y => ?_) (fun m z y w => ?_)
    · rw [el]; exact lms_inR (lms_inR (hl.1 m z y) hl.2) hl.2
    · rw [elo]; exact hl.2
    · rw [el, hlm.2, hlm.1, lms_lms, lms_lms]
      simp only [← Bool.or_assoc]
      rfl
    · rw [elo]; exact hlm.2
    · rw [er]; exact ha q q0 q1
    · rw [es]; exact hS m z y
    · rw [e4] at w
      rw [ek, hk m z y w]
      unfold gK
      rw [E5, E6]
      exact ⟨rfl, gra_mrD (fun i i0 i1 => (hc.2.2.2 m i z y i0 i1).2.1) (fun q q0 q1 => (ha q q0 q1).2)⟩
  refine j_aload_n (p2 := 1) dT_stage_0 rfl rfl ?_
  refine j_aload_n (p2 := 2) dT_stage_1 rfl rfl ?_
  refine j_dload_n (p2 := 3) dT_stage_2 rfl rfl ?_
  refine j_callV (m' := mT_moveStates) (As := [_, _]) (p2 := 6) dT_stage_3 rfl ml_T_102 ok_mT_moveStates im_mT_moveStates se_mT_moveStates rfl rfl (Nat.le_of_ble_eq_true rfl) ly_21 rfl (Nat.le_of_ble_eq_true rfl) ⟨(Nat.le_of_ble_eq_true rfl), (Nat.le_of_ble_eq_true rfl)⟩ ?_
  refine cTd_moveStates_k1 (st := x.2.1) (bf := bf) (K := K) hc hx.2.2.1 hlen hh hs hb (fun m z y w => ⟨(hK m z y w).1, mr_mkD (hK m z y w).2⟩) hl (fun S hS => ?_)
  have hS2 : ∀ m : Int, 0 ≤ m → m < N → S m = cvD (gMs arD P h bf K x.2.1 m) ∧ BdD (gMs arD P h bf K x.2.1 m) := by
    unfold gMs
    rw [E4, E3]
    exact hS
  have eB : pw (fun _ => false) (gmvB arD (hI σ 4) h bf K) N = gMb arD P h bf K := by unfold gMb; rw [E4, E3]
  rw [eB]
  clear hS
  refine j_aload_n (p2 := 7) dT_stage_6 rfl rfl ?_
  refine j_callV (m' := mT_readAll) (As := []) (p2 := 10) dT_stage_7 rfl ml_T_81 ok_mT_readAll im_mT_readAll se_mT_readAll rfl rfl (Nat.le_of_ble_eq_true rfl) ly_21 rfl (Nat.le_of_ble_eq_true rfl) ⟨(Nat.le_of_ble_eq_true rfl), (Nat.le_of_ble_eq_true rfl)⟩ ?_
  have hx1 : Cxd (wI (wD σ 24 S) 20 (lms (hI σ 20) (hI σ 19 1) (gMb arD P h bf K))) fr se nn row L N P := cxd_mv ((Fq.rf.wD (by decide)).wI (by decide)) hx
  refine cTd_readAll (σ := wI (wD σ 24 S) 20 (lms (hI σ 20) (hI σ 19 1) (gMb arD P h bf K))) (se := se) (row := row) (st := gMs arD P h bf K x.2.1) (r := x.1) (L := L) hx1.2.1 hx1.2.2.1 hr (cxd_mo hx1 hS2) ⟨fun m z y => lms_inR (hl.1 m z y) hl.2, hl.2⟩ hx1.2.2.2.2.1 (fun a ha hta => ?_)
  have eE : Ecd (wI (wD σ 24 S) 20 (lms (hI σ 20) (hI σ 19 1) (gMb arD P h bf K))) fr se row (gMs arD P h bf K x.2.1) = pEv P row (gMs arD P h bf K x.2.1) := (cxd_E hx1).1.symm
  rw [eE, ← E2] at ha
  rw [eE, ← E2]
  have ha2 : ∀ q : Int, 0 ≤ q → q < N → a q = cvD ((gPh arD P row h bf K x).1 q) ∧ BdD ((gPh arD P row h bf K x).1 q) := ha
  clear ha
  refine j_aload_n (p2 := 11) dT_stage_10 rfl rfl ?_
  refine j_aload (p2 := 13) dT_stage_11 rfl rfl ?_
  refine j_callV (m' := mT_sumsInto) (As := [_]) (p2 := 16) dT_stage_13 rfl ml_T_95 ok_mT_sumsInto im_mT_sumsInto se_mT_sumsInto rfl rfl (Nat.le_of_ble_eq_true rfl) ly_21 rfl (Nat.le_of_ble_eq_true rfl) ⟨(Nat.le_of_ble_eq_true rfl), (Nat.le_of_ble_eq_true rfl)⟩ ?_
  refine cTd_sumsInto_k2 (fr := fr) (r := (gPh arD P row h bf K x).1) (N := N) hc hx.2.2.1 ha2 (fun k hk => ?_)
  refine j_return dT_stage_16 rfl (by exact fin S a k hta hS2 ha2 hk)
theorem cTd_stage2 {fr : Int → Int} {se : Int → UInt64} {nn : Int → Int} {row bf K : Int → UInt64} {L : List Int} {N : Nat} {P : Pt UInt64} {x : (Int → UInt64) × (Int → UInt64) × (Int → Bool)} {h : UInt64} {len : UInt64} {f : Int → Int} {t : Int} (hx : Cxd σ fr se nn row L N P) (hl : Lpd σ N) (hlm : hI σ 20 = lms f t x.2.2 ∧ hI σ 19 1 = t) (hlen : len = cvD h) (hh : MhD h) (hr : Rdd σ x.1 N) (hs : Std σ x.2.1 N) (hb : Ahd σ bf N) (hK : Krd σ 31 K N)
    (hQ : ∀ τ, Fq [24, 22, 20, 32] σ τ → Cxd τ fr se nn row L N P → Lpd τ N → hI τ 20 = lms f t (gPh arD P row h bf K x).2.2 ∧ hI τ 19 1 = t → Rdd τ (gPh arD P row h bf K x).1 N → Std τ (gPh arD P row h bf K x).2.1 N → Krd τ 32 (gK arD P (gPh arD P row h bf K x).1) N → Q none τ) : Sp mT_stage [vR 21, vR 31, vD len, vR 32] σ Q := by
  obtain ⟨E1, E2, E3, E4, E5, E6, E7, E8⟩ := cxd_E (row := row) (st := gMs arD P h bf K x.2.1) hx
  have hc := hx.2.1
  have fin : ∀ S a k, (∀ q : Int, (N : Int) ≤ q → a q = hD σ 22 q) → (∀ m : Int, 0 ≤ m → m < N → S m = cvD (gMs arD P h bf K x.2.1 m) ∧ BdD (gMs arD P h bf K x.2.1 m)) → (∀ q : Int, 0 ≤ q → q < N → a q = cvD ((gPh arD P row h bf K x).1 q) ∧ BdD ((gPh arD P row h bf K x).1 q)) → (∀ m : Int, 0 ≤ m → m < N → hI σ 4 m = 2 → k m = cvD (gra arD fr (hI σ 10) (gPh arD P row h bf K x).1 m)) → Q none (wD (wI (wD (wI (wD σ 24 S) 20 (lms (hI σ 20) (hI σ 19 1) (gMb arD P h bf K))) 22 a) 20 (lms (lms (hI σ 20) (hI σ 19 1) (gMb arD P h bf K)) (hI σ 19 1) (gRd arD P row (gMs arD P h bf K x.2.1) x.1).2)) 32 k) := by
    intro S a k hta hS ha hk
    have F : Fq [24, 22, 20, 32] σ (wD (wI (wD (wI (wD σ 24 S) 20 (lms (hI σ 20) (hI σ 19 1) (gMb arD P h bf K))) 22 a) 20 (lms (lms (hI σ 20) (hI σ 19 1) (gMb arD P h bf K)) (hI σ 19 1) (gRd arD P row (gMs arD P h bf K x.2.1) x.1).2)) 32 k) :=
      ((((Fq.rf.wD (by decide)).wI (by decide)).wR (by decide) (by exact k20d ha (fun q q0 => hta q q0))).wI (by decide)).wD (by decide)
    have el : hI (wD (wI (wD (wI (wD σ 24 S) 20 (lms (hI σ 20) (hI σ 19 1) (gMb arD P h bf K))) 22 a) 20 (lms (lms (hI σ 20) (hI σ 19 1) (gMb arD P h bf K)) (hI σ 19 1) (gRd arD P row (gMs arD P h bf K x.2.1) x.1).2)) 32 k) 20 = lms (lms (hI σ 20) (hI σ 19 1) (gMb arD P h bf K)) (hI σ 19 1) (gRd arD P row (gMs arD P h bf K x.2.1) x.1).2 := rfl
    have es : hD (wD (wI (wD (wI (wD σ 24 S) 20 (lms (hI σ 20) (hI σ 19 1) (gMb arD P h bf K))) 22 a) 20 (lms (lms (hI σ 20) (hI σ 19 1) (gMb arD P h bf K)) (hI σ 19 1) (gRd arD P row (gMs arD P h bf K x.2.1) x.1).2)) 32 k) 24 = S := rfl
    have er : hD (wD (wI (wD (wI (wD σ 24 S) 20 (lms (hI σ 20) (hI σ 19 1) (gMb arD P h bf K))) 22 a) 20 (lms (lms (hI σ 20) (hI σ 19 1) (gMb arD P h bf K)) (hI σ 19 1) (gRd arD P row (gMs arD P h bf K x.2.1) x.1).2)) 32 k) 22 = a := rfl
    have ek : hD (wD (wI (wD (wI (wD σ 24 S) 20 (lms (hI σ 20) (hI σ 19 1) (gMb arD P h bf K))) 22 a) 20 (lms (lms (hI σ 20) (hI σ 19 1) (gMb arD P h bf K)) (hI σ 19 1) (gRd arD P row (gMs arD P h bf K x.2.1) x.1).2)) 32 k) 32 = k := rfl
    generalize wD (wI (wD (wI (wD σ 24 S) 20 (lms (hI σ 20) (hI σ 19 1) (gMb arD P h bf K))) 22 a) 20 (lms (lms (hI σ 20) (hI σ 19 1) (gMb arD P h bf K)) (hI σ 19 1) (gRd arD P row (gMs arD P h bf K x.2.1) x.1).2)) 32 k = τ at F el es er ek ⊢
    have elo := F.I (c := 19) (by decide)
    have e4 := F.I (c := 4) (by decide)
    refine hQ τ F (cxd_mv (F.weak (by decide)) hx) ⟨fun m z y => ?_, ?_⟩ ⟨?_, ?_⟩ (fun q q0 q1 => ?_) (fun m z y => ?_) (fun m z y w => ?_)
    · rw [el]; exact lms_inR (lms_inR (hl.1 m z y) hl.2) hl.2
    · rw [elo]; exact hl.2
    · rw [el, hlm.2, hlm.1, lms_lms, lms_lms]
      simp only [← Bool.or_assoc]
      rfl
    · rw [elo]; exact hlm.2
    · rw [er]; exact ha q q0 q1
    · rw [es]; exact hS m z y
    · rw [e4] at w
      rw [ek, hk m z y w]
      unfold gK
      rw [E5, E6]
      exact ⟨rfl, gra_mrD (fun i i0 i1 => (hc.2.2.2 m i z y i0 i1).2.1) (fun q q0 q1 => (ha q q0 q1).2)⟩
  refine j_aload_n (p2 := 1) dT_stage_0 rfl rfl ?_
  refine j_aload_n (p2 := 2) dT_stage_1 rfl rfl ?_
  refine j_dload_n (p2 := 3) dT_stage_2 rfl rfl ?_
  refine j_callV (m' := mT_moveStates) (As := [_, _]) (p2 := 6) dT_stage_3 rfl ml_T_102 ok_mT_moveStates im_mT_moveStates se_mT_moveStates rfl rfl (Nat.le_of_ble_eq_true rfl) ly_21 rfl (Nat.le_of_ble_eq_true rfl) ⟨(Nat.le_of_ble_eq_true rfl), (Nat.le_of_ble_eq_true rfl)⟩ ?_
  refine cTd_moveStates_k2 (st := x.2.1) (bf := bf) (K := K) hc hx.2.2.1 hlen hh hs hb (fun m z y w => ⟨(hK m z y w).1, mr_mkD (hK m z y w).2⟩) hl (fun S hS => ?_)
  have hS2 : ∀ m : Int, 0 ≤ m → m < N → S m = cvD (gMs arD P h bf K x.2.1 m) ∧ BdD (gMs arD P h bf K x.2.1 m) := by
    unfold gMs
    rw [E4, E3]
    exact hS
  have eB : pw (fun _ => false) (gmvB arD (hI σ 4) h bf K) N = gMb arD P h bf K := by unfold gMb; rw [E4, E3]
  rw [eB]
  clear hS
  refine j_aload_n (p2 := 7) dT_stage_6 rfl rfl ?_
  refine j_callV (m' := mT_readAll) (As := []) (p2 := 10) dT_stage_7 rfl ml_T_81 ok_mT_readAll im_mT_readAll se_mT_readAll rfl rfl (Nat.le_of_ble_eq_true rfl) ly_21 rfl (Nat.le_of_ble_eq_true rfl) ⟨(Nat.le_of_ble_eq_true rfl), (Nat.le_of_ble_eq_true rfl)⟩ ?_
  have hx1 : Cxd (wI (wD σ 24 S) 20 (lms (hI σ 20) (hI σ 19 1) (gMb arD P h bf K))) fr se nn row L N P := cxd_mv ((Fq.rf.wD (by decide)).wI (by decide)) hx
  refine cTd_readAll (σ := wI (wD σ 24 S) 20 (lms (hI σ 20) (hI σ 19 1) (gMb arD P h bf K))) (se := se) (row := row) (st := gMs arD P h bf K x.2.1) (r := x.1) (L := L) hx1.2.1 hx1.2.2.1 hr (cxd_mo hx1 hS2) ⟨fun m z y => lms_inR (hl.1 m z y) hl.2, hl.2⟩ hx1.2.2.2.2.1 (fun a ha hta => ?_)
  have eE : Ecd (wI (wD σ 24 S) 20 (lms (hI σ 20) (hI σ 19 1) (gMb arD P h bf K))) fr se row (gMs arD P h bf K x.2.1) = pEv P row (gMs arD P h bf K x.2.1) := (cxd_E hx1).1.symm
  rw [eE, ← E2] at ha
  rw [eE, ← E2]
  have ha2 : ∀ q : Int, 0 ≤ q → q < N → a q = cvD ((gPh arD P row h bf K x).1 q) ∧ BdD ((gPh arD P row h bf K x).1 q) := ha
  clear ha
  refine j_aload_n (p2 := 11) dT_stage_10 rfl rfl ?_
  refine j_aload (p2 := 13) dT_stage_11 rfl rfl ?_
  refine j_callV (m' := mT_sumsInto) (As := [_]) (p2 := 16) dT_stage_13 rfl ml_T_95 ok_mT_sumsInto im_mT_sumsInto se_mT_sumsInto rfl rfl (Nat.le_of_ble_eq_true rfl) ly_21 rfl (Nat.le_of_ble_eq_true rfl) ⟨(Nat.le_of_ble_eq_true rfl), (Nat.le_of_ble_eq_true rfl)⟩ ?_
  refine cTd_sumsInto_k3 (fr := fr) (r := (gPh arD P row h bf K x).1) (N := N) hc hx.2.2.1 ha2 (fun k hk => ?_)
  refine j_return dT_stage_16 rfl (by exact fin S a k hta hS2 ha2 hk)
theorem cTd_stage3 {fr : Int → Int} {se : Int → UInt64} {nn : Int → Int} {row bf K : Int → UInt64} {L : List Int} {N : Nat} {P : Pt UInt64} {x : (Int → UInt64) × (Int → UInt64) × (Int → Bool)} {h : UInt64} {len : UInt64} {f : Int → Int} {t : Int} (hx : Cxd σ fr se nn row L N P) (hl : Lpd σ N) (hlm : hI σ 20 = lms f t x.2.2 ∧ hI σ 19 1 = t) (hlen : len = cvD h) (hh : MhD h) (hr : Rdd σ x.1 N) (hs : Std σ x.2.1 N) (hb : Ahd σ bf N) (hK : Krd σ 32 K N)
    (hQ : ∀ τ, Fq [24, 22, 20, 33] σ τ → Cxd τ fr se nn row L N P → Lpd τ N → hI τ 20 = lms f t (gPh arD P row h bf K x).2.2 ∧ hI τ 19 1 = t → Rdd τ (gPh arD P row h bf K x).1 N → Std τ (gPh arD P row h bf K x).2.1 N → Krd τ 33 (gK arD P (gPh arD P row h bf K x).1) N → Q none τ) : Sp mT_stage [vR 21, vR 32, vD len, vR 33] σ Q := by
  obtain ⟨E1, E2, E3, E4, E5, E6, E7, E8⟩ := cxd_E (row := row) (st := gMs arD P h bf K x.2.1) hx
  have hc := hx.2.1
  have fin : ∀ S a k, (∀ q : Int, (N : Int) ≤ q → a q = hD σ 22 q) → (∀ m : Int, 0 ≤ m → m < N → S m = cvD (gMs arD P h bf K x.2.1 m) ∧ BdD (gMs arD P h bf K x.2.1 m)) → (∀ q : Int, 0 ≤ q → q < N → a q = cvD ((gPh arD P row h bf K x).1 q) ∧ BdD ((gPh arD P row h bf K x).1 q)) → (∀ m : Int, 0 ≤ m → m < N → hI σ 4 m = 2 → k m = cvD (gra arD fr (hI σ 10) (gPh arD P row h bf K x).1 m)) → Q none (wD (wI (wD (wI (wD σ 24 S) 20 (lms (hI σ 20) (hI σ 19 1) (gMb arD P h bf K))) 22 a) 20 (lms (lms (hI σ 20) (hI σ 19 1) (gMb arD P h bf K)) (hI σ 19 1) (gRd arD P row (gMs arD P h bf K x.2.1) x.1).2)) 33 k) := by
    intro S a k hta hS ha hk
    have F : Fq [24, 22, 20, 33] σ (wD (wI (wD (wI (wD σ 24 S) 20 (lms (hI σ 20) (hI σ 19 1) (gMb arD P h bf K))) 22 a) 20 (lms (lms (hI σ 20) (hI σ 19 1) (gMb arD P h bf K)) (hI σ 19 1) (gRd arD P row (gMs arD P h bf K x.2.1) x.1).2)) 33 k) :=
      ((((Fq.rf.wD (by decide)).wI (by decide)).wR (by decide) (by exact k20d ha (fun q q0 => hta q q0))).wI (by decide)).wD (by decide)
    have el : hI (wD (wI (wD (wI (wD σ 24 S) 20 (lms (hI σ 20) (hI σ 19 1) (gMb arD P h bf K))) 22 a) 20 (lms (lms (hI σ 20) (hI σ 19 1) (gMb arD P h bf K)) (hI σ 19 1) (gRd arD P row (gMs arD P h bf K x.2.1) x.1).2)) 33 k) 20 = lms (lms (hI σ 20) (hI σ 19 1) (gMb arD P h bf K)) (hI σ 19 1) (gRd arD P row (gMs arD P h bf K x.2.1) x.1).2 := rfl
    have es : hD (wD (wI (wD (wI (wD σ 24 S) 20 (lms (hI σ 20) (hI σ 19 1) (gMb arD P h bf K))) 22 a) 20 (lms (lms (hI σ 20) (hI σ 19 1) (gMb arD P h bf K)) (hI σ 19 1) (gRd arD P row (gMs arD P h bf K x.2.1) x.1).2)) 33 k) 24 = S := rfl
    have er : hD (wD (wI (wD (wI (wD σ 24 S) 20 (lms (hI σ 20) (hI σ 19 1) (gMb arD P h bf K))) 22 a) 20 (lms (lms (hI σ 20) (hI σ 19 1) (gMb arD P h bf K)) (hI σ 19 1) (gRd arD P row (gMs arD P h bf K x.2.1) x.1).2)) 33 k) 22 = a := rfl
    have ek : hD (wD (wI (wD (wI (wD σ 24 S) 20 (lms (hI σ 20) (hI σ 19 1) (gMb arD P h bf K))) 22 a) 20 (lms (lms (hI σ 20) (hI σ 19 1) (gMb arD P h bf K)) (hI σ 19 1) (gRd arD P row (gMs arD P h bf K x.2.1) x.1).2)) 33 k) 33 = k := rfl
    generalize wD (wI (wD (wI (wD σ 24 S) 20 (lms (hI σ 20) (hI σ 19 1) (gMb arD P h bf K))) 22 a) 20 (lms (lms (hI σ 20) (hI σ 19 1) (gMb arD P h bf K)) (hI σ 19 1) (gRd arD P row (gMs arD P h bf K x.2.1) x.1).2)) 33 k = τ at F el es er ek ⊢
    have elo := F.I (c := 19) (by decide)
    have e4 := F.I (c := 4) (by decide)
    refine hQ τ F (cxd_mv (F.weak (by decide)) hx) ⟨fun m z y => ?_, ?_⟩ ⟨?_, ?_⟩ (fun q q0 q1 => ?_) (fun m z y => ?_) (fun m z y w => ?_)
    · rw [el]; exact lms_inR (lms_inR (hl.1 m z y) hl.2) hl.2
    · rw [elo]; exact hl.2
    · rw [el, hlm.2, hlm.1, lms_lms, lms_lms]
      simp only [← Bool.or_assoc]
      rfl
    · rw [elo]; exact hlm.2
    · rw [er]; exact ha q q0 q1
    · rw [es]; exact hS m z y
    · rw [e4] at w
      rw [ek, hk m z y w]
      unfold gK
      rw [E5, E6]
      exact ⟨rfl, gra_mrD (fun i i0 i1 => (hc.2.2.2 m i z y i0 i1).2.1) (fun q q0 q1 => (ha q q0 q1).2)⟩
  refine j_aload_n (p2 := 1) dT_stage_0 rfl rfl ?_
  refine j_aload_n (p2 := 2) dT_stage_1 rfl rfl ?_
  refine j_dload_n (p2 := 3) dT_stage_2 rfl rfl ?_
  refine j_callV (m' := mT_moveStates) (As := [_, _]) (p2 := 6) dT_stage_3 rfl ml_T_102 ok_mT_moveStates im_mT_moveStates se_mT_moveStates rfl rfl (Nat.le_of_ble_eq_true rfl) ly_21 rfl (Nat.le_of_ble_eq_true rfl) ⟨(Nat.le_of_ble_eq_true rfl), (Nat.le_of_ble_eq_true rfl)⟩ ?_
  refine cTd_moveStates_k3 (st := x.2.1) (bf := bf) (K := K) hc hx.2.2.1 hlen hh hs hb (fun m z y w => ⟨(hK m z y w).1, mr_mkD (hK m z y w).2⟩) hl (fun S hS => ?_)
  have hS2 : ∀ m : Int, 0 ≤ m → m < N → S m = cvD (gMs arD P h bf K x.2.1 m) ∧ BdD (gMs arD P h bf K x.2.1 m) := by
    unfold gMs
    rw [E4, E3]
    exact hS
  have eB : pw (fun _ => false) (gmvB arD (hI σ 4) h bf K) N = gMb arD P h bf K := by unfold gMb; rw [E4, E3]
  rw [eB]
  clear hS
  refine j_aload_n (p2 := 7) dT_stage_6 rfl rfl ?_
  refine j_callV (m' := mT_readAll) (As := []) (p2 := 10) dT_stage_7 rfl ml_T_81 ok_mT_readAll im_mT_readAll se_mT_readAll rfl rfl (Nat.le_of_ble_eq_true rfl) ly_21 rfl (Nat.le_of_ble_eq_true rfl) ⟨(Nat.le_of_ble_eq_true rfl), (Nat.le_of_ble_eq_true rfl)⟩ ?_
  have hx1 : Cxd (wI (wD σ 24 S) 20 (lms (hI σ 20) (hI σ 19 1) (gMb arD P h bf K))) fr se nn row L N P := cxd_mv ((Fq.rf.wD (by decide)).wI (by decide)) hx
  refine cTd_readAll (σ := wI (wD σ 24 S) 20 (lms (hI σ 20) (hI σ 19 1) (gMb arD P h bf K))) (se := se) (row := row) (st := gMs arD P h bf K x.2.1) (r := x.1) (L := L) hx1.2.1 hx1.2.2.1 hr (cxd_mo hx1 hS2) ⟨fun m z y => lms_inR (hl.1 m z y) hl.2, hl.2⟩ hx1.2.2.2.2.1 (fun a ha hta => ?_)
  have eE : Ecd (wI (wD σ 24 S) 20 (lms (hI σ 20) (hI σ 19 1) (gMb arD P h bf K))) fr se row (gMs arD P h bf K x.2.1) = pEv P row (gMs arD P h bf K x.2.1) := (cxd_E hx1).1.symm
  rw [eE, ← E2] at ha
  rw [eE, ← E2]
  have ha2 : ∀ q : Int, 0 ≤ q → q < N → a q = cvD ((gPh arD P row h bf K x).1 q) ∧ BdD ((gPh arD P row h bf K x).1 q) := ha
  clear ha
  refine j_aload_n (p2 := 11) dT_stage_10 rfl rfl ?_
  refine j_aload (p2 := 13) dT_stage_11 rfl rfl ?_
  refine j_callV (m' := mT_sumsInto) (As := [_]) (p2 := 16) dT_stage_13 rfl ml_T_95 ok_mT_sumsInto im_mT_sumsInto se_mT_sumsInto rfl rfl (Nat.le_of_ble_eq_true rfl) ly_21 rfl (Nat.le_of_ble_eq_true rfl) ⟨(Nat.le_of_ble_eq_true rfl), (Nat.le_of_ble_eq_true rfl)⟩ ?_
  refine cTd_sumsInto_k4 (fr := fr) (r := (gPh arD P row h bf K x).1) (N := N) hc hx.2.2.1 ha2 (fun k hk => ?_)
  refine j_return dT_stage_16 rfl (by exact fin S a k hta hS2 ha2 hk)
theorem cTf_stage1 {fr : Int → Int} {se : Int → UInt32} {nn : Int → Int} {row bf K : Int → UInt32} {L : List Int} {N : Nat} {P : Pt UInt32} {x : (Int → UInt32) × (Int → UInt32) × (Int → Bool)} {h : UInt32} {len : UInt64} {f : Int → Int} {t : Int} (hx : Cxf σ fr se nn row L N P) (hl : Lpf σ N) (hlm : hI σ 20 = lms f t x.2.2 ∧ hI σ 19 1 = t) (hlen : len = cvF h) (hh : MhF h) (hr : Rdf σ x.1 N) (hs : Stf σ x.2.1 N) (hb : Ahf σ bf N) (hK : Krf σ 43 K N)
    (hQ : ∀ τ, Fq [37, 35, 20, 44] σ τ → Cxf τ fr se nn row L N P → Lpf τ N → hI τ 20 = lms f t (gPh arF P row h bf K x).2.2 ∧ hI τ 19 1 = t → Rdf τ (gPh arF P row h bf K x).1 N → Stf τ (gPh arF P row h bf K x).2.1 N → Krf τ 44 (gK arF P (gPh arF P row h bf K x).1) N → Q none τ) : Sp mT_stage [vR 34, vR 43, vD len, vR 44] σ Q := by
  obtain ⟨E1, E2, E3, E4, E5, E6, E7, E8⟩ := cxf_E (row := row) (st := gMs arF P h bf K x.2.1) hx
  have hc := hx.2.1
  have fin : ∀ S a k, (∀ q : Int, (N : Int) ≤ q → a q = hD σ 35 q) → (∀ m : Int, 0 ≤ m → m < N → S m = cvF (gMs arF P h bf K x.2.1 m) ∧ BdF (gMs arF P h bf K x.2.1 m)) → (∀ q : Int, 0 ≤ q → q < N → a q = cvF ((gPh arF P row h bf K x).1 q) ∧ BdF ((gPh arF P row h bf K x).1 q)) → (∀ m : Int, 0 ≤ m → m < N → hI σ 4 m = 2 → k m = cvF (gra arF fr (hI σ 10) (gPh arF P row h bf K x).1 m)) → Q none (wD (wI (wD (wI (wD σ 37 S) 20 (lms (hI σ 20) (hI σ 19 1) (gMb arF P h bf K))) 35 a) 20 (lms (lms (hI σ 20) (hI σ 19 1) (gMb arF P h bf K)) (hI σ 19 1) (gRd arF P row (gMs arF P h bf K x.2.1) x.1).2)) 44 k) := by
    intro S a k hta hS ha hk
    have F : Fq [37, 35, 20, 44] σ (wD (wI (wD (wI (wD σ 37 S) 20 (lms (hI σ 20) (hI σ 19 1) (gMb arF P h bf K))) 35 a) 20 (lms (lms (hI σ 20) (hI σ 19 1) (gMb arF P h bf K)) (hI σ 19 1) (gRd arF P row (gMs arF P h bf K x.2.1) x.1).2)) 44 k) :=
      ((((Fq.rf.wD (by decide)).wI (by decide)).wR (by decide) (by exact k20f ha (fun q q0 => hta q q0))).wI (by decide)).wD (by decide)
    have el : hI (wD (wI (wD (wI (wD σ 37 S) 20 (lms (hI σ 20) (hI σ 19 1) (gMb arF P h bf K))) 35 a) 20 (lms (lms (hI σ 20) (hI σ 19 1) (gMb arF P h bf K)) (hI σ 19 1) (gRd arF P row (gMs arF P h bf K x.2.1) x.1).2)) 44 k) 20 = lms (lms (hI σ 20) (hI σ 19 1) (gMb arF P h bf K)) (hI σ 19 1) (gRd arF P row (gMs arF P h bf K x.2.1) x.1).2 := rfl
    have es : hD (wD (wI (wD (wI (wD σ 37 S) 20 (lms (hI σ 20) (hI σ 19 1) (gMb arF P h bf K))) 35 a) 20 (lms (lms (hI σ 20) (hI σ 19 1) (gMb arF P h bf K)) (hI σ 19 1) (gRd arF P row (gMs arF P h bf K x.2.1) x.1).2)) 44 k) 37 = S := rfl
    have er : hD (wD (wI (wD (wI (wD σ 37 S) 20 (lms (hI σ 20) (hI σ 19 1) (gMb arF P h bf K))) 35 a) 20 (lms (lms (hI σ 20) (hI σ 19 1) (gMb arF P h bf K)) (hI σ 19 1) (gRd arF P row (gMs arF P h bf K x.2.1) x.1).2)) 44 k) 35 = a := rfl
    have ek : hD (wD (wI (wD (wI (wD σ 37 S) 20 (lms (hI σ 20) (hI σ 19 1) (gMb arF P h bf K))) 35 a) 20 (lms (lms (hI σ 20) (hI σ 19 1) (gMb arF P h bf K)) (hI σ 19 1) (gRd arF P row (gMs arF P h bf K x.2.1) x.1).2)) 44 k) 44 = k := rfl
    generalize wD (wI (wD (wI (wD σ 37 S) 20 (lms (hI σ 20) (hI σ 19 1) (gMb arF P h bf K))) 35 a) 20 (lms (lms (hI σ 20) (hI σ 19 1) (gMb arF P h bf K)) (hI σ 19 1) (gRd arF P row (gMs arF P h bf K x.2.1) x.1).2)) 44 k = τ at F el es er ek ⊢
    have elo := F.I (c := 19) (by decide)
    have e4 := F.I (c := 4) (by decide)
    refine hQ τ F (cxf_mv (F.weak (by decide)) hx) ⟨fun m z y => ?_, ?_⟩ ⟨?_, ?_⟩ (fun q q0 q1 => ?_) (fun m z y => ?_) (fun m z y w => ?_)
    · rw [el]; exact lms_inR (lms_inR (hl.1 m z y) hl.2) hl.2
    · rw [elo]; exact hl.2
    · rw [el, hlm.2, hlm.1, lms_lms, lms_lms]
      simp only [← Bool.or_assoc]
      rfl
    · rw [elo]; exact hlm.2
    · rw [er]; exact ha q q0 q1
    · rw [es]; exact hS m z y
    · rw [e4] at w
      rw [ek, hk m z y w]
      unfold gK
      rw [E5, E6]
      exact ⟨rfl, gra_mrF (fun i i0 i1 => (hc.2.2.2 m i z y i0 i1).2.1) (fun q q0 q1 => (ha q q0 q1).2)⟩
  refine j_aload_n (p2 := 1) dT_stage_0 rfl rfl ?_
  refine j_aload_n (p2 := 2) dT_stage_1 rfl rfl ?_
  refine j_dload_n (p2 := 3) dT_stage_2 rfl rfl ?_
  refine j_callV (m' := mT_moveStates) (As := [_, _]) (p2 := 6) dT_stage_3 rfl ml_T_102 ok_mT_moveStates im_mT_moveStates se_mT_moveStates rfl rfl (Nat.le_of_ble_eq_true rfl) ly_34 rfl (Nat.le_of_ble_eq_true rfl) ⟨(Nat.le_of_ble_eq_true rfl), (Nat.le_of_ble_eq_true rfl)⟩ ?_
  refine cTf_moveStates_k1 (st := x.2.1) (bf := bf) (K := K) hc hx.2.2.1 hlen hh hs hb (fun m z y w => ⟨(hK m z y w).1, mr_mkF (hK m z y w).2⟩) hl (fun S hS => ?_)
  have hS2 : ∀ m : Int, 0 ≤ m → m < N → S m = cvF (gMs arF P h bf K x.2.1 m) ∧ BdF (gMs arF P h bf K x.2.1 m) := by
    unfold gMs
    rw [E4, E3]
    exact hS
  have eB : pw (fun _ => false) (gmvB arF (hI σ 4) h bf K) N = gMb arF P h bf K := by unfold gMb; rw [E4, E3]
  rw [eB]
  clear hS
  refine j_aload_n (p2 := 7) dT_stage_6 rfl rfl ?_
  refine j_callV (m' := mT_readAll) (As := []) (p2 := 10) dT_stage_7 rfl ml_T_81 ok_mT_readAll im_mT_readAll se_mT_readAll rfl rfl (Nat.le_of_ble_eq_true rfl) ly_34 rfl (Nat.le_of_ble_eq_true rfl) ⟨(Nat.le_of_ble_eq_true rfl), (Nat.le_of_ble_eq_true rfl)⟩ ?_
  have hx1 : Cxf (wI (wD σ 37 S) 20 (lms (hI σ 20) (hI σ 19 1) (gMb arF P h bf K))) fr se nn row L N P := cxf_mv ((Fq.rf.wD (by decide)).wI (by decide)) hx
  refine cTf_readAll (σ := wI (wD σ 37 S) 20 (lms (hI σ 20) (hI σ 19 1) (gMb arF P h bf K))) (se := se) (row := row) (st := gMs arF P h bf K x.2.1) (r := x.1) (L := L) hx1.2.1 hx1.2.2.1 hr (cxf_mo hx1 hS2) ⟨fun m z y => lms_inR (hl.1 m z y) hl.2, hl.2⟩ hx1.2.2.2.2.1 (fun a ha hta => ?_)
  have eE : Ecf (wI (wD σ 37 S) 20 (lms (hI σ 20) (hI σ 19 1) (gMb arF P h bf K))) fr se row (gMs arF P h bf K x.2.1) = pEv P row (gMs arF P h bf K x.2.1) := (cxf_E hx1).1.symm
  rw [eE, ← E2] at ha
  rw [eE, ← E2]
  have ha2 : ∀ q : Int, 0 ≤ q → q < N → a q = cvF ((gPh arF P row h bf K x).1 q) ∧ BdF ((gPh arF P row h bf K x).1 q) := ha
  clear ha
  refine j_aload_n (p2 := 11) dT_stage_10 rfl rfl ?_
  refine j_aload (p2 := 13) dT_stage_11 rfl rfl ?_
  refine j_callV (m' := mT_sumsInto) (As := [_]) (p2 := 16) dT_stage_13 rfl ml_T_95 ok_mT_sumsInto im_mT_sumsInto se_mT_sumsInto rfl rfl (Nat.le_of_ble_eq_true rfl) ly_34 rfl (Nat.le_of_ble_eq_true rfl) ⟨(Nat.le_of_ble_eq_true rfl), (Nat.le_of_ble_eq_true rfl)⟩ ?_
  refine cTf_sumsInto_k2 (fr := fr) (r := (gPh arF P row h bf K x).1) (N := N) hc hx.2.2.1 ha2 (fun k hk => ?_)
  refine j_return dT_stage_16 rfl (by exact fin S a k hta hS2 ha2 hk)
theorem cTf_stage2 {fr : Int → Int} {se : Int → UInt32} {nn : Int → Int} {row bf K : Int → UInt32} {L : List Int} {N : Nat} {P : Pt UInt32} {x : (Int → UInt32) × (Int → UInt32) × (Int → Bool)} {h : UInt32} {len : UInt64} {f : Int → Int} {t : Int} (hx : Cxf σ fr se nn row L N P) (hl : Lpf σ N) (hlm : hI σ 20 = lms f t x.2.2 ∧ hI σ 19 1 = t) (hlen : len = cvF h) (hh : MhF h) (hr : Rdf σ x.1 N) (hs : Stf σ x.2.1 N) (hb : Ahf σ bf N) (hK : Krf σ 44 K N)
    (hQ : ∀ τ, Fq [37, 35, 20, 45] σ τ → Cxf τ fr se nn row L N P → Lpf τ N → hI τ 20 = lms f t (gPh arF P row h bf K x).2.2 ∧ hI τ 19 1 = t → Rdf τ (gPh arF P row h bf K x).1 N → Stf τ (gPh arF P row h bf K x).2.1 N → Krf τ 45 (gK arF P (gPh arF P row h bf K x).1) N → Q none τ) : Sp mT_stage [vR 34, vR 44, vD len, vR 45] σ Q := by
  obtain ⟨E1, E2, E3, E4, E5, E6, E7, E8⟩ := cxf_E (row := row) (st := gMs arF P h bf K x.2.1) hx
  have hc := hx.2.1
  have fin : ∀ S a k, (∀ q : Int, (N : Int) ≤ q → a q = hD σ 35 q) → (∀ m : Int, 0 ≤ m → m < N → S m = cvF (gMs arF P h bf K x.2.1 m) ∧ BdF (gMs arF P h bf K x.2.1 m)) → (∀ q : Int, 0 ≤ q → q < N → a q = cvF ((gPh arF P row h bf K x).1 q) ∧ BdF ((gPh arF P row h bf K x).1 q)) → (∀ m : Int, 0 ≤ m → m < N → hI σ 4 m = 2 → k m = cvF (gra arF fr (hI σ 10) (gPh arF P row h bf K x).1 m)) → Q none (wD (wI (wD (wI (wD σ 37 S) 20 (lms (hI σ 20) (hI σ 19 1) (gMb arF P h bf K))) 35 a) 20 (lms (lms (hI σ 20) (hI σ 19 1) (gMb arF P h bf K)) (hI σ 19 1) (gRd arF P row (gMs arF P h bf K x.2.1) x.1).2)) 45 k) := by
    intro S a k hta hS ha hk
    have F : Fq [37, 35, 20, 45] σ (wD (wI (wD (wI (wD σ 37 S) 20 (lms (hI σ 20) (hI σ 19 1) (gMb arF P h bf K))) 35 a) 20 (lms (lms (hI σ 20) (hI σ 19 1) (gMb arF P h bf K)) (hI σ 19 1) (gRd arF P row (gMs arF P h bf K x.2.1) x.1).2)) 45 k) :=
      ((((Fq.rf.wD (by decide)).wI (by decide)).wR (by decide) (by exact k20f ha (fun q q0 => hta q q0))).wI (by decide)).wD (by decide)
    have el : hI (wD (wI (wD (wI (wD σ 37 S) 20 (lms (hI σ 20) (hI σ 19 1) (gMb arF P h bf K))) 35 a) 20 (lms (lms (hI σ 20) (hI σ 19 1) (gMb arF P h bf K)) (hI σ 19 1) (gRd arF P row (gMs arF P h bf K x.2.1) x.1).2)) 45 k) 20 = lms (lms (hI σ 20) (hI σ 19 1) (gMb arF P h bf K)) (hI σ 19 1) (gRd arF P row (gMs arF P h bf K x.2.1) x.1).2 := rfl
    have es : hD (wD (wI (wD (wI (wD σ 37 S) 20 (lms (hI σ 20) (hI σ 19 1) (gMb arF P h bf K))) 35 a) 20 (lms (lms (hI σ 20) (hI σ 19 1) (gMb arF P h bf K)) (hI σ 19 1) (gRd arF P row (gMs arF P h bf K x.2.1) x.1).2)) 45 k) 37 = S := rfl
    have er : hD (wD (wI (wD (wI (wD σ 37 S) 20 (lms (hI σ 20) (hI σ 19 1) (gMb arF P h bf K))) 35 a) 20 (lms (lms (hI σ 20) (hI σ 19 1) (gMb arF P h bf K)) (hI σ 19 1) (gRd arF P row (gMs arF P h bf K x.2.1) x.1).2)) 45 k) 35 = a := rfl
    have ek : hD (wD (wI (wD (wI (wD σ 37 S) 20 (lms (hI σ 20) (hI σ 19 1) (gMb arF P h bf K))) 35 a) 20 (lms (lms (hI σ 20) (hI σ 19 1) (gMb arF P h bf K)) (hI σ 19 1) (gRd arF P row (gMs arF P h bf K x.2.1) x.1).2)) 45 k) 45 = k := rfl
    generalize wD (wI (wD (wI (wD σ 37 S) 20 (lms (hI σ 20) (hI σ 19 1) (gMb arF P h bf K))) 35 a) 20 (lms (lms (hI σ 20) (hI σ 19 1) (gMb arF P h bf K)) (hI σ 19 1) (gRd arF P row (gMs arF P h bf K x.2.1) x.1).2)) 45 k = τ at F el es er ek ⊢
    have elo := F.I (c := 19) (by decide)
    have e4 := F.I (c := 4) (by decide)
    refine hQ τ F (cxf_mv (F.weak (by decide)) hx) ⟨fun m z y => ?_, ?_⟩ ⟨?_, ?_⟩ (fun q q0 q1 => ?_) (fun m z y => ?_) (fun m z y w => ?_)
    · rw [el]; exact lms_inR (lms_inR (hl.1 m z y) hl.2) hl.2
    · rw [elo]; exact hl.2
    · rw [el, hlm.2, hlm.1, lms_lms, lms_lms]
      simp only [← Bool.or_assoc]
      rfl
    · rw [elo]; exact hlm.2
    · rw [er]; exact ha q q0 q1
    · rw [es]; exact hS m z y
    · rw [e4] at w
      rw [ek, hk m z y w]
      unfold gK
      rw [E5, E6]
      exact ⟨rfl, gra_mrF (fun i i0 i1 => (hc.2.2.2 m i z y i0 i1).2.1) (fun q q0 q1 => (ha q q0 q1).2)⟩
  refine j_aload_n (p2 := 1) dT_stage_0 rfl rfl ?_
  refine j_aload_n (p2 := 2) dT_stage_1 rfl rfl ?_
  refine j_dload_n (p2 := 3) dT_stage_2 rfl rfl ?_
  refine j_callV (m' := mT_moveStates) (As := [_, _]) (p2 := 6) dT_stage_3 rfl ml_T_102 ok_mT_moveStates im_mT_moveStates se_mT_moveStates rfl rfl (Nat.le_of_ble_eq_true rfl) ly_34 rfl (Nat.le_of_ble_eq_true rfl) ⟨(Nat.le_of_ble_eq_true rfl), (Nat.le_of_ble_eq_true rfl)⟩ ?_
  refine cTf_moveStates_k2 (st := x.2.1) (bf := bf) (K := K) hc hx.2.2.1 hlen hh hs hb (fun m z y w => ⟨(hK m z y w).1, mr_mkF (hK m z y w).2⟩) hl (fun S hS => ?_)
  have hS2 : ∀ m : Int, 0 ≤ m → m < N → S m = cvF (gMs arF P h bf K x.2.1 m) ∧ BdF (gMs arF P h bf K x.2.1 m) := by
    unfold gMs
    rw [E4, E3]
    exact hS
  have eB : pw (fun _ => false) (gmvB arF (hI σ 4) h bf K) N = gMb arF P h bf K := by unfold gMb; rw [E4, E3]
  rw [eB]
  clear hS
  refine j_aload_n (p2 := 7) dT_stage_6 rfl rfl ?_
  refine j_callV (m' := mT_readAll) (As := []) (p2 := 10) dT_stage_7 rfl ml_T_81 ok_mT_readAll im_mT_readAll se_mT_readAll rfl rfl (Nat.le_of_ble_eq_true rfl) ly_34 rfl (Nat.le_of_ble_eq_true rfl) ⟨(Nat.le_of_ble_eq_true rfl), (Nat.le_of_ble_eq_true rfl)⟩ ?_
  have hx1 : Cxf (wI (wD σ 37 S) 20 (lms (hI σ 20) (hI σ 19 1) (gMb arF P h bf K))) fr se nn row L N P := cxf_mv ((Fq.rf.wD (by decide)).wI (by decide)) hx
  refine cTf_readAll (σ := wI (wD σ 37 S) 20 (lms (hI σ 20) (hI σ 19 1) (gMb arF P h bf K))) (se := se) (row := row) (st := gMs arF P h bf K x.2.1) (r := x.1) (L := L) hx1.2.1 hx1.2.2.1 hr (cxf_mo hx1 hS2) ⟨fun m z y => lms_inR (hl.1 m z y) hl.2, hl.2⟩ hx1.2.2.2.2.1 (fun a ha hta => ?_)
  have eE : Ecf (wI (wD σ 37 S) 20 (lms (hI σ 20) (hI σ 19 1) (gMb arF P h bf K))) fr se row (gMs arF P h bf K x.2.1) = pEv P row (gMs arF P h bf K x.2.1) := (cxf_E hx1).1.symm
  rw [eE, ← E2] at ha
  rw [eE, ← E2]
  have ha2 : ∀ q : Int, 0 ≤ q → q < N → a q = cvF ((gPh arF P row h bf K x).1 q) ∧ BdF ((gPh arF P row h bf K x).1 q) := ha
  clear ha
  refine j_aload_n (p2 := 11) dT_stage_10 rfl rfl ?_
  refine j_aload (p2 := 13) dT_stage_11 rfl rfl ?_
  refine j_callV (m' := mT_sumsInto) (As := [_]) (p2 := 16) dT_stage_13 rfl ml_T_95 ok_mT_sumsInto im_mT_sumsInto se_mT_sumsInto rfl rfl (Nat.le_of_ble_eq_true rfl) ly_34 rfl (Nat.le_of_ble_eq_true rfl) ⟨(Nat.le_of_ble_eq_true rfl), (Nat.le_of_ble_eq_true rfl)⟩ ?_
  refine cTf_sumsInto_k3 (fr := fr) (r := (gPh arF P row h bf K x).1) (N := N) hc hx.2.2.1 ha2 (fun k hk => ?_)
  refine j_return dT_stage_16 rfl (by exact fin S a k hta hS2 ha2 hk)
theorem cTf_stage3 {fr : Int → Int} {se : Int → UInt32} {nn : Int → Int} {row bf K : Int → UInt32} {L : List Int} {N : Nat} {P : Pt UInt32} {x : (Int → UInt32) × (Int → UInt32) × (Int → Bool)} {h : UInt32} {len : UInt64} {f : Int → Int} {t : Int} (hx : Cxf σ fr se nn row L N P) (hl : Lpf σ N) (hlm : hI σ 20 = lms f t x.2.2 ∧ hI σ 19 1 = t) (hlen : len = cvF h) (hh : MhF h) (hr : Rdf σ x.1 N) (hs : Stf σ x.2.1 N) (hb : Ahf σ bf N) (hK : Krf σ 45 K N)
    (hQ : ∀ τ, Fq [37, 35, 20, 46] σ τ → Cxf τ fr se nn row L N P → Lpf τ N → hI τ 20 = lms f t (gPh arF P row h bf K x).2.2 ∧ hI τ 19 1 = t → Rdf τ (gPh arF P row h bf K x).1 N → Stf τ (gPh arF P row h bf K x).2.1 N → Krf τ 46 (gK arF P (gPh arF P row h bf K x).1) N → Q none τ) : Sp mT_stage [vR 34, vR 45, vD len, vR 46] σ Q := by
  obtain ⟨E1, E2, E3, E4, E5, E6, E7, E8⟩ := cxf_E (row := row) (st := gMs arF P h bf K x.2.1) hx
  have hc := hx.2.1
  have fin : ∀ S a k, (∀ q : Int, (N : Int) ≤ q → a q = hD σ 35 q) → (∀ m : Int, 0 ≤ m → m < N → S m = cvF (gMs arF P h bf K x.2.1 m) ∧ BdF (gMs arF P h bf K x.2.1 m)) → (∀ q : Int, 0 ≤ q → q < N → a q = cvF ((gPh arF P row h bf K x).1 q) ∧ BdF ((gPh arF P row h bf K x).1 q)) → (∀ m : Int, 0 ≤ m → m < N → hI σ 4 m = 2 → k m = cvF (gra arF fr (hI σ 10) (gPh arF P row h bf K x).1 m)) → Q none (wD (wI (wD (wI (wD σ 37 S) 20 (lms (hI σ 20) (hI σ 19 1) (gMb arF P h bf K))) 35 a) 20 (lms (lms (hI σ 20) (hI σ 19 1) (gMb arF P h bf K)) (hI σ 19 1) (gRd arF P row (gMs arF P h bf K x.2.1) x.1).2)) 46 k) := by
    intro S a k hta hS ha hk
    have F : Fq [37, 35, 20, 46] σ (wD (wI (wD (wI (wD σ 37 S) 20 (lms (hI σ 20) (hI σ 19 1) (gMb arF P h bf K))) 35 a) 20 (lms (lms (hI σ 20) (hI σ 19 1) (gMb arF P h bf K)) (hI σ 19 1) (gRd arF P row (gMs arF P h bf K x.2.1) x.1).2)) 46 k) :=
      ((((Fq.rf.wD (by decide)).wI (by decide)).wR (by decide) (by exact k20f ha (fun q q0 => hta q q0))).wI (by decide)).wD (by decide)
    have el : hI (wD (wI (wD (wI (wD σ 37 S) 20 (lms (hI σ 20) (hI σ 19 1) (gMb arF P h bf K))) 35 a) 20 (lms (lms (hI σ 20) (hI σ 19 1) (gMb arF P h bf K)) (hI σ 19 1) (gRd arF P row (gMs arF P h bf K x.2.1) x.1).2)) 46 k) 20 = lms (lms (hI σ 20) (hI σ 19 1) (gMb arF P h bf K)) (hI σ 19 1) (gRd arF P row (gMs arF P h bf K x.2.1) x.1).2 := rfl
    have es : hD (wD (wI (wD (wI (wD σ 37 S) 20 (lms (hI σ 20) (hI σ 19 1) (gMb arF P h bf K))) 35 a) 20 (lms (lms (hI σ 20) (hI σ 19 1) (gMb arF P h bf K)) (hI σ 19 1) (gRd arF P row (gMs arF P h bf K x.2.1) x.1).2)) 46 k) 37 = S := rfl
    have er : hD (wD (wI (wD (wI (wD σ 37 S) 20 (lms (hI σ 20) (hI σ 19 1) (gMb arF P h bf K))) 35 a) 20 (lms (lms (hI σ 20) (hI σ 19 1) (gMb arF P h bf K)) (hI σ 19 1) (gRd arF P row (gMs arF P h bf K x.2.1) x.1).2)) 46 k) 35 = a := rfl
    have ek : hD (wD (wI (wD (wI (wD σ 37 S) 20 (lms (hI σ 20) (hI σ 19 1) (gMb arF P h bf K))) 35 a) 20 (lms (lms (hI σ 20) (hI σ 19 1) (gMb arF P h bf K)) (hI σ 19 1) (gRd arF P row (gMs arF P h bf K x.2.1) x.1).2)) 46 k) 46 = k := rfl
    generalize wD (wI (wD (wI (wD σ 37 S) 20 (lms (hI σ 20) (hI σ 19 1) (gMb arF P h bf K))) 35 a) 20 (lms (lms (hI σ 20) (hI σ 19 1) (gMb arF P h bf K)) (hI σ 19 1) (gRd arF P row (gMs arF P h bf K x.2.1) x.1).2)) 46 k = τ at F el es er ek ⊢
    have elo := F.I (c := 19) (by decide)
    have e4 := F.I (c := 4) (by decide)
    refine hQ τ F (cxf_mv (F.weak (by decide)) hx) ⟨fun m z y => ?_, ?_⟩ ⟨?_, ?_⟩ (fun q q0 q1 => ?_) (fun m z y => ?_) (fun m z y w => ?_)
    · rw [el]; exact lms_inR (lms_inR (hl.1 m z y) hl.2) hl.2
    · rw [elo]; exact hl.2
    · rw [el, hlm.2, hlm.1, lms_lms, lms_lms]
      simp only [← Bool.or_assoc]
      rfl
    · rw [elo]; exact hlm.2
    · rw [er]; exact ha q q0 q1
    · rw [es]; exact hS m z y
    · rw [e4] at w
      rw [ek, hk m z y w]
      unfold gK
      rw [E5, E6]
      exact ⟨rfl, gra_mrF (fun i i0 i1 => (hc.2.2.2 m i z y i0 i1).2.1) (fun q q0 q1 => (ha q q0 q1).2)⟩
  refine j_aload_n (p2 := 1) dT_stage_0 rfl rfl ?_
  refine j_aload_n (p2 := 2) dT_stage_1 rfl rfl ?_
  refine j_dload_n (p2 := 3) dT_stage_2 rfl rfl ?_
  refine j_callV (m' := mT_moveStates) (As := [_, _]) (p2 := 6) dT_stage_3 rfl ml_T_102 ok_mT_moveStates im_mT_moveStates se_mT_moveStates rfl rfl (Nat.le_of_ble_eq_true rfl) ly_34 rfl (Nat.le_of_ble_eq_true rfl) ⟨(Nat.le_of_ble_eq_true rfl), (Nat.le_of_ble_eq_true rfl)⟩ ?_
  refine cTf_moveStates_k3 (st := x.2.1) (bf := bf) (K := K) hc hx.2.2.1 hlen hh hs hb (fun m z y w => ⟨(hK m z y w).1, mr_mkF (hK m z y w).2⟩) hl (fun S hS => ?_)
  have hS2 : ∀ m : Int, 0 ≤ m → m < N → S m = cvF (gMs arF P h bf K x.2.1 m) ∧ BdF (gMs arF P h bf K x.2.1 m) := by
    unfold gMs
    rw [E4, E3]
    exact hS
  have eB : pw (fun _ => false) (gmvB arF (hI σ 4) h bf K) N = gMb arF P h bf K := by unfold gMb; rw [E4, E3]
  rw [eB]
  clear hS
  refine j_aload_n (p2 := 7) dT_stage_6 rfl rfl ?_
  refine j_callV (m' := mT_readAll) (As := []) (p2 := 10) dT_stage_7 rfl ml_T_81 ok_mT_readAll im_mT_readAll se_mT_readAll rfl rfl (Nat.le_of_ble_eq_true rfl) ly_34 rfl (Nat.le_of_ble_eq_true rfl) ⟨(Nat.le_of_ble_eq_true rfl), (Nat.le_of_ble_eq_true rfl)⟩ ?_
  have hx1 : Cxf (wI (wD σ 37 S) 20 (lms (hI σ 20) (hI σ 19 1) (gMb arF P h bf K))) fr se nn row L N P := cxf_mv ((Fq.rf.wD (by decide)).wI (by decide)) hx
  refine cTf_readAll (σ := wI (wD σ 37 S) 20 (lms (hI σ 20) (hI σ 19 1) (gMb arF P h bf K))) (se := se) (row := row) (st := gMs arF P h bf K x.2.1) (r := x.1) (L := L) hx1.2.1 hx1.2.2.1 hr (cxf_mo hx1 hS2) ⟨fun m z y => lms_inR (hl.1 m z y) hl.2, hl.2⟩ hx1.2.2.2.2.1 (fun a ha hta => ?_)
  have eE : Ecf (wI (wD σ 37 S) 20 (lms (hI σ 20) (hI σ 19 1) (gMb arF P h bf K))) fr se row (gMs arF P h bf K x.2.1) = pEv P row (gMs arF P h bf K x.2.1) := (cxf_E hx1).1.symm
  rw [eE, ← E2] at ha
  rw [eE, ← E2]
  have ha2 : ∀ q : Int, 0 ≤ q → q < N → a q = cvF ((gPh arF P row h bf K x).1 q) ∧ BdF ((gPh arF P row h bf K x).1 q) := ha
  clear ha
  refine j_aload_n (p2 := 11) dT_stage_10 rfl rfl ?_
  refine j_aload (p2 := 13) dT_stage_11 rfl rfl ?_
  refine j_callV (m' := mT_sumsInto) (As := [_]) (p2 := 16) dT_stage_13 rfl ml_T_95 ok_mT_sumsInto im_mT_sumsInto se_mT_sumsInto rfl rfl (Nat.le_of_ble_eq_true rfl) ly_34 rfl (Nat.le_of_ble_eq_true rfl) ⟨(Nat.le_of_ble_eq_true rfl), (Nat.le_of_ble_eq_true rfl)⟩ ?_
  refine cTf_sumsInto_k4 (fr := fr) (r := (gPh arF P row h bf K x).1) (N := N) hc hx.2.2.1 ha2 (fun k hk => ?_)
  refine j_return dT_stage_16 rfl (by exact fin S a k hta hS2 ha2 hk)
theorem cTt_stage1 {fr : Int → Int} {se : Int → UInt64} {nn : Int → Int} {row bf K : Int → UInt64} {L : List Int} {N : Nat} {P : Pt UInt64} {x : (Int → UInt64) × (Int → UInt64) × (Int → Bool)} {h : UInt64} {len : UInt64} {f : Int → Int} {t : Int} (hx : Cxt σ fr se nn row L N P) (hl : Lpt σ N) (hlm : hI σ 55 = lms f t x.2.2 ∧ hI σ 54 1 = t) (hlen : len = cvD h) (hh : MhD h) (hr : Rdt σ x.1 N) (hs : Stt σ x.2.1 N) (hb : Aht σ bf N) (hK : Krt σ 65 K N)
    (hQ : ∀ τ, Fq [59, 57, 55, 66] σ τ → Cxt τ fr se nn row L N P → Lpt τ N → hI τ 55 = lms f t (gPh arD P row h bf K x).2.2 ∧ hI τ 54 1 = t → Rdt τ (gPh arD P row h bf K x).1 N → Stt τ (gPh arD P row h bf K x).2.1 N → Krt τ 66 (gK arD P (gPh arD P row h bf K x).1) N → Q none τ) : Sp mT_stage [vR 56, vR 65, vD len, vR 66] σ Q := by
  obtain ⟨E1, E2, E3, E4, E5, E6, E7, E8⟩ := cxt_E (row := row) (st := gMs arD P h bf K x.2.1) hx
  have hc := hx.2.1
  have fin : ∀ S a k, (∀ q : Int, (N : Int) ≤ q → a q = hD σ 57 q) → (∀ m : Int, 0 ≤ m → m < N → S m = cvD (gMs arD P h bf K x.2.1 m) ∧ BdD (gMs arD P h bf K x.2.1 m)) → (∀ q : Int, 0 ≤ q → q < N → a q = cvD ((gPh arD P row h bf K x).1 q) ∧ BdD ((gPh arD P row h bf K x).1 q)) → (∀ m : Int, 0 ≤ m → m < N → hI σ 4 m = 2 → k m = cvD (gra arD fr (hI σ 10) (gPh arD P row h bf K x).1 m)) → Q none (wD (wI (wD (wI (wD σ 59 S) 55 (lms (hI σ 55) (hI σ 54 1) (gMb arD P h bf K))) 57 a) 55 (lms (lms (hI σ 55) (hI σ 54 1) (gMb arD P h bf K)) (hI σ 54 1) (gRd arD P row (gMs arD P h bf K x.2.1) x.1).2)) 66 k) := by
    intro S a k hta hS ha hk
    have F : Fq [59, 57, 55, 66] σ (wD (wI (wD (wI (wD σ 59 S) 55 (lms (hI σ 55) (hI σ 54 1) (gMb arD P h bf K))) 57 a) 55 (lms (lms (hI σ 55) (hI σ 54 1) (gMb arD P h bf K)) (hI σ 54 1) (gRd arD P row (gMs arD P h bf K x.2.1) x.1).2)) 66 k) :=
      ((((Fq.rf.wD (by decide)).wI (by decide)).wR (by decide) (by exact k20t ha (fun q q0 => hta q q0))).wI (by decide)).wD (by decide)
    have el : hI (wD (wI (wD (wI (wD σ 59 S) 55 (lms (hI σ 55) (hI σ 54 1) (gMb arD P h bf K))) 57 a) 55 (lms (lms (hI σ 55) (hI σ 54 1) (gMb arD P h bf K)) (hI σ 54 1) (gRd arD P row (gMs arD P h bf K x.2.1) x.1).2)) 66 k) 55 = lms (lms (hI σ 55) (hI σ 54 1) (gMb arD P h bf K)) (hI σ 54 1) (gRd arD P row (gMs arD P h bf K x.2.1) x.1).2 := rfl
    have es : hD (wD (wI (wD (wI (wD σ 59 S) 55 (lms (hI σ 55) (hI σ 54 1) (gMb arD P h bf K))) 57 a) 55 (lms (lms (hI σ 55) (hI σ 54 1) (gMb arD P h bf K)) (hI σ 54 1) (gRd arD P row (gMs arD P h bf K x.2.1) x.1).2)) 66 k) 59 = S := rfl
    have er : hD (wD (wI (wD (wI (wD σ 59 S) 55 (lms (hI σ 55) (hI σ 54 1) (gMb arD P h bf K))) 57 a) 55 (lms (lms (hI σ 55) (hI σ 54 1) (gMb arD P h bf K)) (hI σ 54 1) (gRd arD P row (gMs arD P h bf K x.2.1) x.1).2)) 66 k) 57 = a := rfl
    have ek : hD (wD (wI (wD (wI (wD σ 59 S) 55 (lms (hI σ 55) (hI σ 54 1) (gMb arD P h bf K))) 57 a) 55 (lms (lms (hI σ 55) (hI σ 54 1) (gMb arD P h bf K)) (hI σ 54 1) (gRd arD P row (gMs arD P h bf K x.2.1) x.1).2)) 66 k) 66 = k := rfl
    generalize wD (wI (wD (wI (wD σ 59 S) 55 (lms (hI σ 55) (hI σ 54 1) (gMb arD P h bf K))) 57 a) 55 (lms (lms (hI σ 55) (hI σ 54 1) (gMb arD P h bf K)) (hI σ 54 1) (gRd arD P row (gMs arD P h bf K x.2.1) x.1).2)) 66 k = τ at F el es er ek ⊢
    have elo := F.I (c := 54) (by decide)
    have e4 := F.I (c := 4) (by decide)
    refine hQ τ F (cxt_mv (F.weak (by decide)) hx) ⟨fun m z y => ?_, ?_⟩ ⟨?_, ?_⟩ (fun q q0 q1 => ?_) (fun m z y => ?_) (fun m z y w => ?_)
    · rw [el]; exact lms_inR (lms_inR (hl.1 m z y) hl.2) hl.2
    · rw [elo]; exact hl.2
    · rw [el, hlm.2, hlm.1, lms_lms, lms_lms]
      simp only [← Bool.or_assoc]
      rfl
    · rw [elo]; exact hlm.2
    · rw [er]; exact ha q q0 q1
    · rw [es]; exact hS m z y
    · rw [e4] at w
      rw [ek, hk m z y w]
      unfold gK
      rw [E5, E6]
      exact ⟨rfl, gra_mrD (fun i i0 i1 => (hc.2.2.2 m i z y i0 i1).2.1) (fun q q0 q1 => (ha q q0 q1).2)⟩
  refine j_aload_n (p2 := 1) dT_stage_0 rfl rfl ?_
  refine j_aload_n (p2 := 2) dT_stage_1 rfl rfl ?_
  refine j_dload_n (p2 := 3) dT_stage_2 rfl rfl ?_
  refine j_callV (m' := mT_moveStates) (As := [_, _]) (p2 := 6) dT_stage_3 rfl ml_T_102 ok_mT_moveStates im_mT_moveStates se_mT_moveStates rfl rfl (Nat.le_of_ble_eq_true rfl) ly_56 rfl (Nat.le_of_ble_eq_true rfl) ⟨(Nat.le_of_ble_eq_true rfl), (Nat.le_of_ble_eq_true rfl)⟩ ?_
  refine cTt_moveStates_k1 (st := x.2.1) (bf := bf) (K := K) hc hx.2.2.1 hlen hh hs hb (fun m z y w => ⟨(hK m z y w).1, mr_mkD (hK m z y w).2⟩) hl (fun S hS => ?_)
  have hS2 : ∀ m : Int, 0 ≤ m → m < N → S m = cvD (gMs arD P h bf K x.2.1 m) ∧ BdD (gMs arD P h bf K x.2.1 m) := by
    unfold gMs
    rw [E4, E3]
    exact hS
  have eB : pw (fun _ => false) (gmvB arD (hI σ 4) h bf K) N = gMb arD P h bf K := by unfold gMb; rw [E4, E3]
  rw [eB]
  clear hS
  refine j_aload_n (p2 := 7) dT_stage_6 rfl rfl ?_
  refine j_callV (m' := mT_readAll) (As := []) (p2 := 10) dT_stage_7 rfl ml_T_81 ok_mT_readAll im_mT_readAll se_mT_readAll rfl rfl (Nat.le_of_ble_eq_true rfl) ly_56 rfl (Nat.le_of_ble_eq_true rfl) ⟨(Nat.le_of_ble_eq_true rfl), (Nat.le_of_ble_eq_true rfl)⟩ ?_
  have hx1 : Cxt (wI (wD σ 59 S) 55 (lms (hI σ 55) (hI σ 54 1) (gMb arD P h bf K))) fr se nn row L N P := cxt_mv ((Fq.rf.wD (by decide)).wI (by decide)) hx
  refine cTt_readAll (σ := wI (wD σ 59 S) 55 (lms (hI σ 55) (hI σ 54 1) (gMb arD P h bf K))) (se := se) (row := row) (st := gMs arD P h bf K x.2.1) (r := x.1) (L := L) hx1.2.1 hx1.2.2.1 hr (cxt_mo hx1 hS2) ⟨fun m z y => lms_inR (hl.1 m z y) hl.2, hl.2⟩ hx1.2.2.2.2.1 (fun a ha hta => ?_)
  have eE : Ect (wI (wD σ 59 S) 55 (lms (hI σ 55) (hI σ 54 1) (gMb arD P h bf K))) fr se row (gMs arD P h bf K x.2.1) = pEv P row (gMs arD P h bf K x.2.1) := (cxt_E hx1).1.symm
  rw [eE, ← E2] at ha
  rw [eE, ← E2]
  have ha2 : ∀ q : Int, 0 ≤ q → q < N → a q = cvD ((gPh arD P row h bf K x).1 q) ∧ BdD ((gPh arD P row h bf K x).1 q) := ha
  clear ha
  refine j_aload_n (p2 := 11) dT_stage_10 rfl rfl ?_
  refine j_aload (p2 := 13) dT_stage_11 rfl rfl ?_
  refine j_callV (m' := mT_sumsInto) (As := [_]) (p2 := 16) dT_stage_13 rfl ml_T_95 ok_mT_sumsInto im_mT_sumsInto se_mT_sumsInto rfl rfl (Nat.le_of_ble_eq_true rfl) ly_56 rfl (Nat.le_of_ble_eq_true rfl) ⟨(Nat.le_of_ble_eq_true rfl), (Nat.le_of_ble_eq_true rfl)⟩ ?_
  refine cTt_sumsInto_k2 (fr := fr) (r := (gPh arD P row h bf K x).1) (N := N) hc hx.2.2.1 ha2 (fun k hk => ?_)
  refine j_return dT_stage_16 rfl (by exact fin S a k hta hS2 ha2 hk)
theorem cTt_stage2 {fr : Int → Int} {se : Int → UInt64} {nn : Int → Int} {row bf K : Int → UInt64} {L : List Int} {N : Nat} {P : Pt UInt64} {x : (Int → UInt64) × (Int → UInt64) × (Int → Bool)} {h : UInt64} {len : UInt64} {f : Int → Int} {t : Int} (hx : Cxt σ fr se nn row L N P) (hl : Lpt σ N) (hlm : hI σ 55 = lms f t x.2.2 ∧ hI σ 54 1 = t) (hlen : len = cvD h) (hh : MhD h) (hr : Rdt σ x.1 N) (hs : Stt σ x.2.1 N) (hb : Aht σ bf N) (hK : Krt σ 66 K N)
    (hQ : ∀ τ, Fq [59, 57, 55, 67] σ τ → Cxt τ fr se nn row L N P → Lpt τ N → hI τ 55 = lms f t (gPh arD P row h bf K x).2.2 ∧ hI τ 54 1 = t → Rdt τ (gPh arD P row h bf K x).1 N → Stt τ (gPh arD P row h bf K x).2.1 N → Krt τ 67 (gK arD P (gPh arD P row h bf K x).1) N → Q none τ) : Sp mT_stage [vR 56, vR 66, vD len, vR 67] σ Q := by
  obtain ⟨E1, E2, E3, E4, E5, E6, E7, E8⟩ := cxt_E (row := row) (st := gMs arD P h bf K x.2.1) hx
  have hc := hx.2.1
  have fin : ∀ S a k, (∀ q : Int, (N : Int) ≤ q → a q = hD σ 57 q) → (∀ m : Int, 0 ≤ m → m < N → S m = cvD (gMs arD P h bf K x.2.1 m) ∧ BdD (gMs arD P h bf K x.2.1 m)) → (∀ q : Int, 0 ≤ q → q < N → a q = cvD ((gPh arD P row h bf K x).1 q) ∧ BdD ((gPh arD P row h bf K x).1 q)) → (∀ m : Int, 0 ≤ m → m < N → hI σ 4 m = 2 → k m = cvD (gra arD fr (hI σ 10) (gPh arD P row h bf K x).1 m)) → Q none (wD (wI (wD (wI (wD σ 59 S) 55 (lms (hI σ 55) (hI σ 54 1) (gMb arD P h bf K))) 57 a) 55 (lms (lms (hI σ 55) (hI σ 54 1) (gMb arD P h bf K)) (hI σ 54 1) (gRd arD P row (gMs arD P h bf K x.2.1) x.1).2)) 67 k) := by
    intro S a k hta hS ha hk
    have F : Fq [59, 57, 55, 67] σ (wD (wI (wD (wI (wD σ 59 S) 55 (lms (hI σ 55) (hI σ 54 1) (gMb arD P h bf K))) 57 a) 55 (lms (lms (hI σ 55) (hI σ 54 1) (gMb arD P h bf K)) (hI σ 54 1) (gRd arD P row (gMs arD P h bf K x.2.1) x.1).2)) 67 k) :=
      ((((Fq.rf.wD (by decide)).wI (by decide)).wR (by decide) (by exact k20t ha (fun q q0 => hta q q0))).wI (by decide)).wD (by decide)
    have el : hI (wD (wI (wD (wI (wD σ 59 S) 55 (lms (hI σ 55) (hI σ 54 1) (gMb arD P h bf K))) 57 a) 55 (lms (lms (hI σ 55) (hI σ 54 1) (gMb arD P h bf K)) (hI σ 54 1) (gRd arD P row (gMs arD P h bf K x.2.1) x.1).2)) 67 k) 55 = lms (lms (hI σ 55) (hI σ 54 1) (gMb arD P h bf K)) (hI σ 54 1) (gRd arD P row (gMs arD P h bf K x.2.1) x.1).2 := rfl
    have es : hD (wD (wI (wD (wI (wD σ 59 S) 55 (lms (hI σ 55) (hI σ 54 1) (gMb arD P h bf K))) 57 a) 55 (lms (lms (hI σ 55) (hI σ 54 1) (gMb arD P h bf K)) (hI σ 54 1) (gRd arD P row (gMs arD P h bf K x.2.1) x.1).2)) 67 k) 59 = S := rfl
    have er : hD (wD (wI (wD (wI (wD σ 59 S) 55 (lms (hI σ 55) (hI σ 54 1) (gMb arD P h bf K))) 57 a) 55 (lms (lms (hI σ 55) (hI σ 54 1) (gMb arD P h bf K)) (hI σ 54 1) (gRd arD P row (gMs arD P h bf K x.2.1) x.1).2)) 67 k) 57 = a := rfl
    have ek : hD (wD (wI (wD (wI (wD σ 59 S) 55 (lms (hI σ 55) (hI σ 54 1) (gMb arD P h bf K))) 57 a) 55 (lms (lms (hI σ 55) (hI σ 54 1) (gMb arD P h bf K)) (hI σ 54 1) (gRd arD P row (gMs arD P h bf K x.2.1) x.1).2)) 67 k) 67 = k := rfl
    generalize wD (wI (wD (wI (wD σ 59 S) 55 (lms (hI σ 55) (hI σ 54 1) (gMb arD P h bf K))) 57 a) 55 (lms (lms (hI σ 55) (hI σ 54 1) (gMb arD P h bf K)) (hI σ 54 1) (gRd arD P row (gMs arD P h bf K x.2.1) x.1).2)) 67 k = τ at F el es er ek ⊢
    have elo := F.I (c := 54) (by decide)
    have e4 := F.I (c := 4) (by decide)
    refine hQ τ F (cxt_mv (F.weak (by decide)) hx) ⟨fun m z y => ?_, ?_⟩ ⟨?_, ?_⟩ (fun q q0 q1 => ?_) (fun m z y => ?_) (fun m z y w => ?_)
    · rw [el]; exact lms_inR (lms_inR (hl.1 m z y) hl.2) hl.2
    · rw [elo]; exact hl.2
    · rw [el, hlm.2, hlm.1, lms_lms, lms_lms]
      simp only [← Bool.or_assoc]
      rfl
    · rw [elo]; exact hlm.2
    · rw [er]; exact ha q q0 q1
    · rw [es]; exact hS m z y
    · rw [e4] at w
      rw [ek, hk m z y w]
      unfold gK
      rw [E5, E6]
      exact ⟨rfl, gra_mrD (fun i i0 i1 => (hc.2.2.2 m i z y i0 i1).2.1) (fun q q0 q1 => (ha q q0 q1).2)⟩
  refine j_aload_n (p2 := 1) dT_stage_0 rfl rfl ?_
  refine j_aload_n (p2 := 2) dT_stage_1 rfl rfl ?_
  refine j_dload_n (p2 := 3) dT_stage_2 rfl rfl ?_
  refine j_callV (m' := mT_moveStates) (As := [_, _]) (p2 := 6) dT_stage_3 rfl ml_T_102 ok_mT_moveStates im_mT_moveStates se_mT_moveStates rfl rfl (Nat.le_of_ble_eq_true rfl) ly_56 rfl (Nat.le_of_ble_eq_true rfl) ⟨(Nat.le_of_ble_eq_true rfl), (Nat.le_of_ble_eq_true rfl)⟩ ?_
  refine cTt_moveStates_k2 (st := x.2.1) (bf := bf) (K := K) hc hx.2.2.1 hlen hh hs hb (fun m z y w => ⟨(hK m z y w).1, mr_mkD (hK m z y w).2⟩) hl (fun S hS => ?_)
  have hS2 : ∀ m : Int, 0 ≤ m → m < N → S m = cvD (gMs arD P h bf K x.2.1 m) ∧ BdD (gMs arD P h bf K x.2.1 m) := by
    unfold gMs
    rw [E4, E3]
    exact hS
  have eB : pw (fun _ => false) (gmvB arD (hI σ 4) h bf K) N = gMb arD P h bf K := by unfold gMb; rw [E4, E3]
  rw [eB]
  clear hS
  refine j_aload_n (p2 := 7) dT_stage_6 rfl rfl ?_
  refine j_callV (m' := mT_readAll) (As := []) (p2 := 10) dT_stage_7 rfl ml_T_81 ok_mT_readAll im_mT_readAll se_mT_readAll rfl rfl (Nat.le_of_ble_eq_true rfl) ly_56 rfl (Nat.le_of_ble_eq_true rfl) ⟨(Nat.le_of_ble_eq_true rfl), (Nat.le_of_ble_eq_true rfl)⟩ ?_
  have hx1 : Cxt (wI (wD σ 59 S) 55 (lms (hI σ 55) (hI σ 54 1) (gMb arD P h bf K))) fr se nn row L N P := cxt_mv ((Fq.rf.wD (by decide)).wI (by decide)) hx
  refine cTt_readAll (σ := wI (wD σ 59 S) 55 (lms (hI σ 55) (hI σ 54 1) (gMb arD P h bf K))) (se := se) (row := row) (st := gMs arD P h bf K x.2.1) (r := x.1) (L := L) hx1.2.1 hx1.2.2.1 hr (cxt_mo hx1 hS2) ⟨fun m z y => lms_inR (hl.1 m z y) hl.2, hl.2⟩ hx1.2.2.2.2.1 (fun a ha hta => ?_)
  have eE : Ect (wI (wD σ 59 S) 55 (lms (hI σ 55) (hI σ 54 1) (gMb arD P h bf K))) fr se row (gMs arD P h bf K x.2.1) = pEv P row (gMs arD P h bf K x.2.1) := (cxt_E hx1).1.symm
  rw [eE, ← E2] at ha
  rw [eE, ← E2]
  have ha2 : ∀ q : Int, 0 ≤ q → q < N → a q = cvD ((gPh arD P row h bf K x).1 q) ∧ BdD ((gPh arD P row h bf K x).1 q) := ha
  clear ha
  refine j_aload_n (p2 := 11) dT_stage_10 rfl rfl ?_
  refine j_aload (p2 := 13) dT_stage_11 rfl rfl ?_
  refine j_callV (m' := mT_sumsInto) (As := [_]) (p2 := 16) dT_stage_13 rfl ml_T_95 ok_mT_sumsInto im_mT_sumsInto se_mT_sumsInto rfl rfl (Nat.le_of_ble_eq_true rfl) ly_56 rfl (Nat.le_of_ble_eq_true rfl) ⟨(Nat.le_of_ble_eq_true rfl), (Nat.le_of_ble_eq_true rfl)⟩ ?_
  refine cTt_sumsInto_k3 (fr := fr) (r := (gPh arD P row h bf K x).1) (N := N) hc hx.2.2.1 ha2 (fun k hk => ?_)
  refine j_return dT_stage_16 rfl (by exact fin S a k hta hS2 ha2 hk)
theorem cTt_stage3 {fr : Int → Int} {se : Int → UInt64} {nn : Int → Int} {row bf K : Int → UInt64} {L : List Int} {N : Nat} {P : Pt UInt64} {x : (Int → UInt64) × (Int → UInt64) × (Int → Bool)} {h : UInt64} {len : UInt64} {f : Int → Int} {t : Int} (hx : Cxt σ fr se nn row L N P) (hl : Lpt σ N) (hlm : hI σ 55 = lms f t x.2.2 ∧ hI σ 54 1 = t) (hlen : len = cvD h) (hh : MhD h) (hr : Rdt σ x.1 N) (hs : Stt σ x.2.1 N) (hb : Aht σ bf N) (hK : Krt σ 67 K N)
    (hQ : ∀ τ, Fq [59, 57, 55, 68] σ τ → Cxt τ fr se nn row L N P → Lpt τ N → hI τ 55 = lms f t (gPh arD P row h bf K x).2.2 ∧ hI τ 54 1 = t → Rdt τ (gPh arD P row h bf K x).1 N → Stt τ (gPh arD P row h bf K x).2.1 N → Krt τ 68 (gK arD P (gPh arD P row h bf K x).1) N → Q none τ) : Sp mT_stage [vR 56, vR 67, vD len, vR 68] σ Q := by
  obtain ⟨E1, E2, E3, E4, E5, E6, E7, E8⟩ := cxt_E (row := row) (st := gMs arD P h bf K x.2.1) hx
  have hc := hx.2.1
  have fin : ∀ S a k, (∀ q : Int, (N : Int) ≤ q → a q = hD σ 57 q) → (∀ m : Int, 0 ≤ m → m < N → S m = cvD (gMs arD P h bf K x.2.1 m) ∧ BdD (gMs arD P h bf K x.2.1 m)) → (∀ q : Int, 0 ≤ q → q < N → a q = cvD ((gPh arD P row h bf K x).1 q) ∧ BdD ((gPh arD P row h bf K x).1 q)) → (∀ m : Int, 0 ≤ m → m < N → hI σ 4 m = 2 → k m = cvD (gra arD fr (hI σ 10) (gPh arD P row h bf K x).1 m)) → Q none (wD (wI (wD (wI (wD σ 59 S) 55 (lms (hI σ 55) (hI σ 54 1) (gMb arD P h bf K))) 57 a) 55 (lms (lms (hI σ 55) (hI σ 54 1) (gMb arD P h bf K)) (hI σ 54 1) (gRd arD P row (gMs arD P h bf K x.2.1) x.1).2)) 68 k) := by
    intro S a k hta hS ha hk
    have F : Fq [59, 57, 55, 68] σ (wD (wI (wD (wI (wD σ 59 S) 55 (lms (hI σ 55) (hI σ 54 1) (gMb arD P h bf K))) 57 a) 55 (lms (lms (hI σ 55) (hI σ 54 1) (gMb arD P h bf K)) (hI σ 54 1) (gRd arD P row (gMs arD P h bf K x.2.1) x.1).2)) 68 k) :=
      ((((Fq.rf.wD (by decide)).wI (by decide)).wR (by decide) (by exact k20t ha (fun q q0 => hta q q0))).wI (by decide)).wD (by decide)
    have el : hI (wD (wI (wD (wI (wD σ 59 S) 55 (lms (hI σ 55) (hI σ 54 1) (gMb arD P h bf K))) 57 a) 55 (lms (lms (hI σ 55) (hI σ 54 1) (gMb arD P h bf K)) (hI σ 54 1) (gRd arD P row (gMs arD P h bf K x.2.1) x.1).2)) 68 k) 55 = lms (lms (hI σ 55) (hI σ 54 1) (gMb arD P h bf K)) (hI σ 54 1) (gRd arD P row (gMs arD P h bf K x.2.1) x.1).2 := rfl
    have es : hD (wD (wI (wD (wI (wD σ 59 S) 55 (lms (hI σ 55) (hI σ 54 1) (gMb arD P h bf K))) 57 a) 55 (lms (lms (hI σ 55) (hI σ 54 1) (gMb arD P h bf K)) (hI σ 54 1) (gRd arD P row (gMs arD P h bf K x.2.1) x.1).2)) 68 k) 59 = S := rfl
    have er : hD (wD (wI (wD (wI (wD σ 59 S) 55 (lms (hI σ 55) (hI σ 54 1) (gMb arD P h bf K))) 57 a) 55 (lms (lms (hI σ 55) (hI σ 54 1) (gMb arD P h bf K)) (hI σ 54 1) (gRd arD P row (gMs arD P h bf K x.2.1) x.1).2)) 68 k) 57 = a := rfl
    have ek : hD (wD (wI (wD (wI (wD σ 59 S) 55 (lms (hI σ 55) (hI σ 54 1) (gMb arD P h bf K))) 57 a) 55 (lms (lms (hI σ 55) (hI σ 54 1) (gMb arD P h bf K)) (hI σ 54 1) (gRd arD P row (gMs arD P h bf K x.2.1) x.1).2)) 68 k) 68 = k := rfl
    generalize wD (wI (wD (wI (wD σ 59 S) 55 (lms (hI σ 55) (hI σ 54 1) (gMb arD P h bf K))) 57 a) 55 (lms (lms (hI σ 55) (hI σ 54 1) (gMb arD P h bf K)) (hI σ 54 1) (gRd arD P row (gMs arD P h bf K x.2.1) x.1).2)) 68 k = τ at F el es er ek ⊢
    have elo := F.I (c := 54) (by decide)
    have e4 := F.I (c := 4) (by decide)
    refine hQ τ F (cxt_mv (F.weak (by decide)) hx) ⟨fun m z y => ?_, ?_⟩ ⟨?_, ?_⟩ (fun q q0 q1 => ?_) (fun m z y => ?_) (fun m z y w => ?_)
    · rw [el]; exact lms_inR (lms_inR (hl.1 m z y) hl.2) hl.2
    · rw [elo]; exact hl.2
    · rw [el, hlm.2, hlm.1, lms_lms, lms_lms]
      simp only [← Bool.or_assoc]
      rfl
    · rw [elo]; exact hlm.2
    · rw [er]; exact ha q q0 q1
    · rw [es]; exact hS m z y
    · rw [e4] at w
      rw [ek, hk m z y w]
      unfold gK
      rw [E5, E6]
      exact ⟨rfl, gra_mrD (fun i i0 i1 => (hc.2.2.2 m i z y i0 i1).2.1) (fun q q0 q1 => (ha q q0 q1).2)⟩
  refine j_aload_n (p2 := 1) dT_stage_0 rfl rfl ?_
  refine j_aload_n (p2 := 2) dT_stage_1 rfl rfl ?_
  refine j_dload_n (p2 := 3) dT_stage_2 rfl rfl ?_
  refine j_callV (m' := mT_moveStates) (As := [_, _]) (p2 := 6) dT_stage_3 rfl ml_T_102 ok_mT_moveStates im_mT_moveStates se_mT_moveStates rfl rfl (Nat.le_of_ble_eq_true rfl) ly_56 rfl (Nat.le_of_ble_eq_true rfl) ⟨(Nat.le_of_ble_eq_true rfl), (Nat.le_of_ble_eq_true rfl)⟩ ?_
  refine cTt_moveStates_k3 (st := x.2.1) (bf := bf) (K := K) hc hx.2.2.1 hlen hh hs hb (fun m z y w => ⟨(hK m z y w).1, mr_mkD (hK m z y w).2⟩) hl (fun S hS => ?_)
  have hS2 : ∀ m : Int, 0 ≤ m → m < N → S m = cvD (gMs arD P h bf K x.2.1 m) ∧ BdD (gMs arD P h bf K x.2.1 m) := by
    unfold gMs
    rw [E4, E3]
    exact hS
  have eB : pw (fun _ => false) (gmvB arD (hI σ 4) h bf K) N = gMb arD P h bf K := by unfold gMb; rw [E4, E3]
  rw [eB]
  clear hS
  refine j_aload_n (p2 := 7) dT_stage_6 rfl rfl ?_
  refine j_callV (m' := mT_readAll) (As := []) (p2 := 10) dT_stage_7 rfl ml_T_81 ok_mT_readAll im_mT_readAll se_mT_readAll rfl rfl (Nat.le_of_ble_eq_true rfl) ly_56 rfl (Nat.le_of_ble_eq_true rfl) ⟨(Nat.le_of_ble_eq_true rfl), (Nat.le_of_ble_eq_true rfl)⟩ ?_
  have hx1 : Cxt (wI (wD σ 59 S) 55 (lms (hI σ 55) (hI σ 54 1) (gMb arD P h bf K))) fr se nn row L N P := cxt_mv ((Fq.rf.wD (by decide)).wI (by decide)) hx
  refine cTt_readAll (σ := wI (wD σ 59 S) 55 (lms (hI σ 55) (hI σ 54 1) (gMb arD P h bf K))) (se := se) (row := row) (st := gMs arD P h bf K x.2.1) (r := x.1) (L := L) hx1.2.1 hx1.2.2.1 hr (cxt_mo hx1 hS2) ⟨fun m z y => lms_inR (hl.1 m z y) hl.2, hl.2⟩ hx1.2.2.2.2.1 (fun a ha hta => ?_)
  have eE : Ect (wI (wD σ 59 S) 55 (lms (hI σ 55) (hI σ 54 1) (gMb arD P h bf K))) fr se row (gMs arD P h bf K x.2.1) = pEv P row (gMs arD P h bf K x.2.1) := (cxt_E hx1).1.symm
  rw [eE, ← E2] at ha
  rw [eE, ← E2]
  have ha2 : ∀ q : Int, 0 ≤ q → q < N → a q = cvD ((gPh arD P row h bf K x).1 q) ∧ BdD ((gPh arD P row h bf K x).1 q) := ha
  clear ha
  refine j_aload_n (p2 := 11) dT_stage_10 rfl rfl ?_
  refine j_aload (p2 := 13) dT_stage_11 rfl rfl ?_
  refine j_callV (m' := mT_sumsInto) (As := [_]) (p2 := 16) dT_stage_13 rfl ml_T_95 ok_mT_sumsInto im_mT_sumsInto se_mT_sumsInto rfl rfl (Nat.le_of_ble_eq_true rfl) ly_56 rfl (Nat.le_of_ble_eq_true rfl) ⟨(Nat.le_of_ble_eq_true rfl), (Nat.le_of_ble_eq_true rfl)⟩ ?_
  refine cTt_sumsInto_k4 (fr := fr) (r := (gPh arD P row h bf K x).1) (N := N) hc hx.2.2.1 ha2 (fun k hk => ?_)
  refine j_return dT_stage_16 rfl (by exact fin S a k hta hS2 ha2 hk)
end TWC8
