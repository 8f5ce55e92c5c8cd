/-! ===== class and reference: cord, module, point ===== -/
section RPB
variable {σ : Hp} {N S : Nat}
theorem bI_01 (b : Bool) : 0 ≤ bI b ∧ bI b ≤ 1 := by cases b <;> decide
theorem pr_cord {m i o : Int} {b : Bool} (h : Rel σ) (hm : inR m) (hi : inR i) (ho : inR o) : PrI mX_cord mM_cord [vI m, vI i, vI o, vI (bI b)] σ := by
  have h0 := h
  obtain ⟨N, S, hA, hB, hP, hLa, hS, hW, hM, hO⟩ := h0
  have cd : (cM σ m ∧ (o = -1 ∨ cM σ o)) ↔ (isM σ m ∧ (o = -1 ∨ isM σ o)) := by rw [hA.m, hA.m]
  refine cX_cord hA.sz hm hi ho (fun g => ⟨_, rfl, cM_cord hA.sc hm hi ho (fun _ => ⟨rfl, h⟩) (fun q _ => absurd (cd.mpr q) g) (fun q _ _ => absurd (cd.mpr q) g) (fun q _ _ => absurd (cd.mpr q) g)⟩) (fun g1 g2 z => ⟨_, rfl, cM_cord hA.sc hm hi ho (fun q => absurd (cd.mp ⟨g1, g2⟩) q) (fun _ _ => ⟨rfl, h⟩) (fun _ q _ => absurd (by omega) z) (fun _ q _ => absurd (by omega) z)⟩) (fun g1 g2 z w => ⟨_, rfl, cM_cord hA.sc hm hi ho (fun q => absurd (cd.mp ⟨g1, g2⟩) q) (fun _ q => absurd (by omega) q) (fun _ _ _ => ⟨rfl, h⟩) (fun _ _ q => absurd (hA.o.mpr q) w)⟩) (fun g1 g2 z w => ⟨_, rfl, cM_cord (σ := wI (wI (wI σ 9 (fup (hI σ 9) (m * 6 + i) o)) 10 (fup (hI σ 10) (m * 6 + i) (bI (b && decide (¬ o = -1))))) 3 (fup (hI σ 3) 3 1)) hA.sc hm hi ho (fun q => absurd (cd.mp ⟨g1, g2⟩) q) (fun _ q => absurd (by omega) q) (fun _ _ q => absurd (hA.o.mp w) q) (fun _ _ q => ⟨rfl, N, S, ?_, ?_, ?_, hLa, hS, hW, ?_, fun o => absurd q o⟩)⟩)
  · unfold RlA at hA ⊢
    simp only [hI_wI]
    simp [fup]
    omega
  · obtain ⟨b1, b2, b3, b4, b5, b6, b7, b8, b9, b10, b11⟩ := hB
    refine ⟨b1, b2, b3, b4, b5, fun k x y => ?_, ?_, b8, b9, b10, b11⟩
    · show fup (hI σ 9) (m * 6 + i) o k = fup (hI σ 72) (6 * m + i) o k
      rw [show m * 6 + i = 6 * m + i by omega]
      unfold fup
      split
      · rfl
      · exact b6 k x y
    · show fup (hI σ 10) (m * 6 + i) (bI (b && decide (¬ o = -1))) = fup (hI σ 73) (6 * m + i) (bI (b && decide (¬ o = -1)))
      rw [show m * 6 + i = 6 * m + i by omega, b7]
  · obtain ⟨p1, p2, p3, p4, p5, p6, p7, p8, p9, p10⟩ := hP
    have n1 := hA.n g1
    have hN := hA.1.2.2
    have no : -1 ≤ o ∧ o < N := by
      rcases g2 with g2 | g2
      · omega
      · have := hA.n g2; omega
    refine ⟨p1, p2, fun m' x y j j0 j1 => ?_, fun k x y => ?_, fun k x y => ?_, p6, p7, p8, p9, p10⟩
    · show -1 ≤ fup (hI σ 72) (6 * m + i) o (6 * m' + j) ∧ fup (hI σ 72) (6 * m + i) o (6 * m' + j) < N
      unfold fup
      split
      · exact no
      · exact p3 m' x y j j0 j1
    · show fup (hI σ 72) (6 * m + i) o k = -1
      rw [fup_n (by omega)]; exact p4 k x y
    · show 0 ≤ fup (hI σ 73) (6 * m + i) (bI (b && decide (¬ o = -1))) k ∧ fup (hI σ 73) (6 * m + i) (bI (b && decide (¬ o = -1))) k ≤ 1
      unfold fup
      split
      · exact bI_01 _
      · exact p5 k x y
  · obtain ⟨m1, m2, m3, m4, m5, m6⟩ := hM
    refine ⟨m1, m2, m3, m4, fun z => ?_, m6⟩
    have z : fup (hI σ 3) 3 1 3 = 0 := z
    rw [fup_s] at z
    exact absurd z (by decide)
theorem pr_module {k : Int} {x : Int64} (h : Rel σ) (hk : inR k) : PrI mX_module mM_module [vI k, vL x] σ := by
  have h0 := h
  obtain ⟨N, S, hA, hB, hP, hLa, hS, hW, hM, hO⟩ := h0
  have e0 : hI σ 3 0 = hI σ 69 0 := by rw [hA.1.1, hA.1.2.1]
  have hN := hA.1
  have cd : ((0 ≤ k ∧ k < 14) ∧ isSet k (dec x) = true) ↔ ((0 ≤ k ∧ k ≤ 13) ∧ isNum x ∧ isSet k x.toUInt64 = true) := by
    rw [set_dec]
    constructor
    · intro q; exact ⟨by omega, q.2⟩
    · intro q; exact ⟨by omega, q.2⟩
  refine cX_module hA.sz hk (fun g => ⟨_, rfl, cM_module hA.sc hk (fun _ => ⟨rfl, h⟩) (fun q _ => absurd (cd.mpr q) g) (fun q _ _ => absurd (cd.mpr q) g) (fun q _ _ => absurd (cd.mpr q) g)⟩) (fun g z => ⟨_, rfl, cM_module hA.sc hk (fun q => absurd (cd.mp g) q) (fun _ _ => ⟨rfl, h⟩) (fun _ q _ => absurd (hA.o.mpr q) z) (fun _ q _ => absurd (hA.o.mpr q) z)⟩) (fun g z w => ⟨_, rfl, cM_module hA.sc hk (fun q => absurd (cd.mp g) q) (fun _ q => absurd (hA.o.mp z) q) (fun _ _ _ => ⟨rfl, h⟩) (fun _ _ q => absurd (e0 ▸ q) w)⟩) (fun g z w a a1 a2 => ⟨_, rfl, cM_module (σ := amH σ k x a) hA.sc hk (fun q => absurd (cd.mp g) q) (fun _ q => absurd (hA.o.mp z) q) (fun _ _ q => ?_) (fun _ q _ => ⟨?_, N + 1, S, ?_, ?_, ?_, ?_, ?_, hW, ?_, fun o => absurd q o⟩)⟩)
  · have q : hI σ 69 0 = 20 := q
    exfalso; omega
  · show some (vI (hI σ 69 0)) = some (vI (hI σ 3 0))
    rw [e0]
  · unfold RlA at hA ⊢
    unfold amH
    simp only [hI_wI, hI_wD, hI_wL]
    simp [fup]
    omega
  · obtain ⟨b1, b2, b3, b4, b5, b6, b7, b8, b9, b10, b11⟩ := hB
    have sb := set_bits g.2
    refine ⟨?_, ?_, ?_, b4, b5, fun j x' y => ?_, b7, b8, b9, b10, b11⟩
    · show fup (hI σ 4) (hI σ 3 0) k = fup (hI σ 70) (hI σ 69 0) k
      rw [b1, e0]
    · show fup (hL σ 5) (hI σ 3 0) x = fun j => (fup (hD σ 71) (hI σ 69 0) x.toUInt64 j).toInt64
      rw [e0]
      funext j
      unfold fup
      split
      · rfl
      · rw [b2]
    · show fup (hD σ 6) (hI σ 3 0) (dec x) = fup (hD σ 71) (hI σ 69 0) x.toUInt64
      rw [b3, sb, e0]
    · show a j = hI σ 72 j
      by_cases c : j < 6 * (N : Int)
      · rw [a2 j x' (by omega)]; exact b6 j x' c
      · have e := a1 (j - 6 * hI σ 3 0) (by omega) (by omega)
        rw [show 6 * hI σ 3 0 + (j - 6 * hI σ 3 0) = j by omega] at e
        rw [e]; exact (hP.2.2.2.1 j (by omega) (by omega)).symm
  · obtain ⟨p1, p2, p3, p4, p5, p6, p7, p8, p9, p10⟩ := hP
    refine ⟨fun m x' y => ?_, ?_, fun m x' y j j0 j1 => ?_, fun j x' y => p4 j (by omega) y, p5, p6, p7, p8, p9, p10⟩
    · show (0 ≤ fup (hI σ 70) (hI σ 69 0) k m ∧ fup (hI σ 70) (hI σ 69 0) k m < 14) ∧ vf_n64 (fup (hD σ 71) (hI σ 69 0) x.toUInt64 m) ∧ isSet (fup (hI σ 70) (hI σ 69 0) k m) (fup (hD σ 71) (hI σ 69 0) x.toUInt64 m) = true
      by_cases e : m = hI σ 69 0
      · rw [e, fup_s, fup_s]; exact ⟨by omega, isNum_nn (cd.mp g).2.1, (cd.mp g).2.2⟩
      · rw [fup_n e, fup_n e]; exact p1 m x' (by omega)
    · show fup (hD σ 71) (hI σ 69 0) x.toUInt64 (-1) = FP.dconst0
      rw [fup_n (by omega)]; exact p2
    · show -1 ≤ hI σ 72 (6 * m + j) ∧ hI σ 72 (6 * m + j) < ((N + 1 : Nat) : Int)
      by_cases c : m < N
      · have := p3 m x' c j j0 j1; omega
      · have := p4 (6 * m + j) (by omega) (by omega); omega
  · obtain ⟨l1, l2, l3⟩ := hLa
    exact ⟨l1, fun j x' y => l2 j (by omega) y, l3⟩
  · obtain ⟨s1, s2, s3, s4, s5⟩ := hS
    refine ⟨s1, s2, s3, fun s x' y => ?_, s5⟩
    have := s4 s x' y
    show (0 ≤ hI σ 101 s ∧ hI σ 101 s ≤ 120) ∧ 0 ≤ hI σ 100 s ∧ hI σ 100 s < ((N + 1 : Nat) : Int)
    omega
  · obtain ⟨m1, m2, m3, m4, m5, m6⟩ := hM
    refine ⟨m1, fun m x' y kd => ?_, fun m x' y => m3 m (by omega) y, m4, fun z => ?_, m6⟩
    · show hD σ 115 m = FP.dconst0 ∧ hF σ 116 m = FP.fconst0
      by_cases c : m < N
      · have kd : ¬ fup (hI σ 70) (hI σ 69 0) k m = 2 := kd
        rw [fup_n (by omega)] at kd
        exact m2 m x' c kd
      · exact m3 m (by omega) (by omega)
    · have z : fup (fup (hI σ 3) 0 (hI σ 3 0 + 1)) 3 1 3 = 0 := z
      rw [fup_s] at z
      exact absurd z (by decide)
theorem pr_point {m : Int} {x y : Int64} (h : Rel σ) (hm : inR m) : PrI mX_point mM_point [vI m, vL x, vL y] σ := by
  have h0 := h
  obtain ⟨N, S, hN⟩ := h0
  have hkd := RlN.kd hN
  obtain ⟨hA, hB, hP, hLa, hS, hW, hM, hO⟩ := hN
  obtain ⟨b1, b2, b3, b4, b5, b6, b7, b8, b9, b10, b11⟩ := hB
  obtain ⟨p1, p2, p3, p4, p5, p6, p7, p8, p9, p10⟩ := hP
  have hN := hA.1.2.2
  have hk : isM σ m → inR (hI σ 70 m) ∧ 0 ≤ hI σ 75 m ∧ hI σ 75 m ≤ 8 := fun g => by
    have g2 := hA.n (hA.m.mpr g)
    exact ⟨hkd m g2.1 g2.2, p6 m g2.1 (by omega)⟩
  have hk4 : ∀ m : Int, cM σ m → inR (hI σ 4 m) ∧ 0 ≤ hI σ 11 m ∧ hI σ 11 m ≤ 8 := fun m g => by
    have g2 := hA.n g
    rw [b1, b8]; exact ⟨hkd m g2.1 g2.2, p6 m g2.1 (by omega)⟩
  have hx : ∀ k : Int, 0 ≤ k → k < 160 → vf_n64 (hD σ 76 k) := fun k a b => (p7 k a b).1.nn (by decide)
  have cd : (hI σ 4 m = 7 ∧ inRg (dec x) ∧ inRg (dec y) ∧ bhP σ m (dec x)) ↔ (ptC σ m x y ∧ ptOk σ m x.toUInt64) := by
    unfold ptC bhP ptOk
    rw [rg_dec, rg_dec, b1, b8, b9]
    constructor
    · intro ⟨q1, q2, q3, q4⟩
      rw [(sml_bd q2).1] at q4
      exact ⟨⟨q1, q2, q3⟩, q4⟩
    · intro ⟨⟨q1, q2, q3⟩, q4⟩
      rw [(sml_bd q2).1]
      exact ⟨q1, q2, q3, q4⟩
  have e11 : hI σ 11 m = hI σ 75 m := by rw [b8]
  refine cX_point hA.sz hm hk4 (by rw [b9]; exact hx) (fun g => ⟨_, rfl, cM_point hA.sc hm hk hx (fun _ => ⟨rfl, h⟩) (fun q _ => absurd (hA.m.mpr q) g) (fun q _ _ => absurd (hA.m.mpr q) g) (fun q _ _ _ => absurd (hA.m.mpr q) g) (fun q _ _ _ _ => absurd (hA.m.mpr q) g) (fun q _ _ _ _ => absurd (hA.m.mpr q) g)⟩)
    (fun g z => ⟨_, rfl, cM_point hA.sc hm hk hx (fun q => absurd (hA.m.mp g) q) (fun _ _ => ⟨rfl, h⟩) (fun _ _ _ => ⟨rfl, h⟩) (fun _ q1 q2 _ => absurd (cd.mpr ⟨q1, q2⟩) z) (fun _ q1 q2 _ _ => absurd (cd.mpr ⟨q1, q2⟩) z) (fun _ q1 q2 _ _ => absurd (cd.mpr ⟨q1, q2⟩) z)⟩)
    (fun g z w => ⟨_, rfl, cM_point hA.sc hm hk hx (fun q => absurd (hA.m.mp g) q) (fun _ q => absurd (cd.mp z).1 q) (fun _ _ q => absurd (cd.mp z).2 q) (fun _ _ _ _ => ⟨rfl, h⟩) (fun _ _ _ q _ => absurd (hA.o.mpr q) w) (fun _ _ _ q _ => absurd (hA.o.mpr q) w)⟩)
    (fun g z w u => ⟨_, rfl, cM_point hA.sc hm hk hx (fun q => absurd (hA.m.mp g) q) (fun _ q => absurd (cd.mp z).1 q) (fun _ _ q => absurd (cd.mp z).2 q) (fun _ _ _ q => absurd (hA.o.mp w) q) (fun _ _ _ _ _ => ⟨rfl, h⟩) (fun _ _ _ _ q => absurd (e11 ▸ q) u)⟩)
    (fun g z w u => ⟨_, rfl, cM_point (σ := wI (wD (wD σ 12 (fup (hD σ 12) (8 * m + hI σ 11 m) (dec x))) 13 (fup (hD σ 13) (8 * m + hI σ 11 m) (dec y))) 11 (fup (hI σ 11) m (hI σ 11 m + 1))) hA.sc hm hk hx (fun q => absurd (hA.m.mp g) q) (fun _ q => absurd (cd.mp z).1 q) (fun _ _ q => absurd (cd.mp z).2 q) (fun _ _ _ q => absurd (hA.o.mp w) q) (fun _ _ _ _ q => ?_) (fun _ _ _ q _ => ⟨?_, N, S, hA, ?_, ?_, hLa, hS, hW, ?_, fun o => absurd q o⟩)⟩)
  · have q : hI σ 75 m = 8 := q
    exfalso; omega
  · show some (vI (hI σ 75 m + 1)) = some (vI (hI σ 11 m + 1))
    rw [e11]
  · have sx := (sml_bd (cd.mp z).1.2.1).1
    have sy := (sml_bd (cd.mp z).1.2.2).1
    refine ⟨b1, b2, b3, b4, b5, b6, b7, ?_, ?_, ?_, b11⟩
    · show fup (hI σ 11) m (hI σ 11 m + 1) = fup (hI σ 75) m (hI σ 75 m + 1)
      rw [b8]
    · show fup (hD σ 12) (8 * m + hI σ 11 m) (dec x) = fup (hD σ 76) (8 * m + hI σ 75 m - 1 + 1) x.toUInt64
      rw [b9, e11, sx, show 8 * m + hI σ 75 m - 1 + 1 = 8 * m + hI σ 75 m by omega]
    · show fup (hD σ 13) (8 * m + hI σ 11 m) (dec y) = fup (hD σ 77) (8 * m + hI σ 75 m - 1 + 1) y.toUInt64
      rw [b10, e11, sy, show 8 * m + hI σ 75 m - 1 + 1 = 8 * m + hI σ 75 m by omega]
  · have sx := sml_bd (cd.mp z).1.2.1
    have sy := sml_bd (cd.mp z).1.2.2
    have ok := (cd.mp z).2
    have g2 := hA.n g
    have pm := p6 m g2.1 (by omega)
    rw [e11] at u
    have ei : 8 * m + hI σ 75 m - 1 + 1 = 8 * m + hI σ 75 m := by omega
    refine ⟨p1, p2, p3, p4, p5, fun k x' y' => ?_, fun k x' y' => ?_, fun k x' y' j j0 j1 => ?_, p9, p10⟩
    · show 0 ≤ fup (hI σ 75) m (hI σ 75 m + 1) k ∧ fup (hI σ 75) m (hI σ 75 m + 1) k ≤ 8
      unfold fup
      split
      · omega
      · exact p6 k x' y'
    · show mg (fup (hD σ 76) (8 * m + hI σ 75 m - 1 + 1) x.toUInt64 k) 1024 ∧ mg (fup (hD σ 77) (8 * m + hI σ 75 m - 1 + 1) y.toUInt64 k) 1024
      by_cases e : k = 8 * m + hI σ 75 m - 1 + 1
      · rw [e, fup_s, fup_s]; exact ⟨mg_15 sx.2, mg_15 sy.2⟩
      · rw [fup_n e, fup_n e]; exact p7 k x' y'
    · have j1 : j < fup (hI σ 75) m (hI σ 75 m + 1) k - 1 := j1
      show FP.dcmp (fup (hD σ 76) (8 * m + hI σ 75 m - 1 + 1) x.toUInt64 (8 * k + j)) (fup (hD σ 76) (8 * m + hI σ 75 m - 1 + 1) x.toUInt64 (8 * k + j + 1)) = some .lt ∧ FP.fcmp (FP.d2f (fup (hD σ 76) (8 * m + hI σ 75 m - 1 + 1) x.toUInt64 (8 * k + j))) (FP.d2f (fup (hD σ 76) (8 * m + hI σ 75 m - 1 + 1) x.toUInt64 (8 * k + j + 1))) = some .lt
      rw [ei]
      have pk := p6 k x' y'
      by_cases e : k = m
      · subst e
        rw [fup_s] at j1
        by_cases l : j = hI σ 75 k - 1
        · rw [fup_n (by omega), show 8 * k + j + 1 = 8 * k + hI σ 75 k by omega, fup_s, show 8 * k + j = 8 * k + hI σ 75 k - 1 by omega]
          have o := ok (by omega)
          exact ⟨dcmp_sw o.1, fcmp_sw o.2⟩
        · rw [fup_n (by omega), fup_n (by omega)]; exact p8 k x' y' j j0 (by omega)
      · rw [fup_n e] at j1
        rw [fup_n (by omega), fup_n (by omega)]; exact p8 k x' y' j j0 j1
  · exact hM
end RPB
