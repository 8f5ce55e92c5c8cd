/-! ===== class and reference, side by side ===== -/
/-- numbers of both -/
abbrev RlA (σ : Hp) (N S : Nat) : Prop := (hI σ 3 0 = N ∧ hI σ 69 0 = N ∧ N ≤ 20) ∧ (hI σ 47 0 = S ∧ hI σ 69 37 = S ∧ S ≤ 6) ∧ (hI σ 0 9 = hI σ 69 11 ∧ 0 ≤ hI σ 69 11 ∧ hI σ 69 11 ≤ 2) ∧ (hI σ 0 10 = hI σ 69 12 ∧ 0 ≤ hI σ 69 12 ∧ hI σ 69 12 ≤ 300) ∧ (hI σ 0 11 = hI σ 69 16 ∧ hI σ 0 12 = hI σ 69 15) ∧ (hI σ 3 1 = hI σ 69 13 ∧ 0 ≤ hI σ 69 13 ∧ hI σ 69 13 ≤ 2) ∧ (hI σ 3 2 = hI σ 69 14 ∧ 1 ≤ hI σ 69 14 ∧ hI σ 69 14 ≤ 20) ∧ (hI σ 51 3 = hI σ 69 41 ∧ 0 ≤ hI σ 69 41 ∧ hI σ 69 41 ≤ 6) ∧ (hI σ 3 3 = 0 ∨ hI σ 3 3 = 1) ∧ hI σ 21 3 = 0 ∧ hI σ 34 3 = 1 ∧ hI σ 56 3 = 0
/-- the patches are one -/
abbrev RlB (σ : Hp) (N : Nat) : Prop := hI σ 4 = hI σ 70 ∧ hL σ 5 = (fun m => (hD σ 71 m).toInt64) ∧ hD σ 6 = hD σ 71 ∧ hL σ 7 = (fun m => (hD σ 74 m).toInt64) ∧ hD σ 8 = hD σ 74 ∧ (∀ k : Int, 0 ≤ k → k < 6 * (N : Int) → hI σ 9 k = hI σ 72 k) ∧ hI σ 10 = hI σ 73 ∧ hI σ 11 = hI σ 75 ∧ hD σ 12 = hD σ 76 ∧ hD σ 13 = hD σ 77 ∧ hI σ 14 = hI σ 78
/-- the patch is sound -/
abbrev RlP (σ : Hp) (N : Nat) : Prop := (∀ m : Int, 0 ≤ m → m < N → (0 ≤ hI σ 70 m ∧ hI σ 70 m < 14) ∧ vf_n64 (hD σ 71 m) ∧ isSet (hI σ 70 m) (hD σ 71 m) = true) ∧ hD σ 71 (-1) = FP.dconst0 ∧ CdN (hI σ 72) N ∧ (∀ k : Int, 6 * (N : Int) ≤ k → k < 120 → hI σ 72 k = -1) ∧ (∀ k : Int, 0 ≤ k → k < 120 → 0 ≤ hI σ 73 k ∧ hI σ 73 k ≤ 1) ∧ (∀ m : Int, 0 ≤ m → m < 20 → 0 ≤ hI σ 75 m ∧ hI σ 75 m ≤ 8) ∧ (∀ k : Int, 0 ≤ k → k < 160 → mg (hD σ 76 k) 1024 ∧ mg (hD σ 77 k) 1024) ∧ (∀ m : Int, 0 ≤ m → m < 20 → ∀ j : Int, 0 ≤ j → j < hI σ 75 m - 1 → FP.dcmp (hD σ 76 (8 * m + j)) (hD σ 76 (8 * m + j + 1)) = some .lt ∧ FP.fcmp (FP.d2f (hD σ 76 (8 * m + j))) (FP.d2f (hD σ 76 (8 * m + j + 1))) = some .lt) ∧ (∀ m : Int, 0 ≤ m → m < 20 → (hD σ 74 m).toNat % 2 ^ 63 ≤ 4609434218613702656) ∧ (∀ m : Int, 0 ≤ m → m < 20 → 0 ≤ hI σ 78 m ∧ hI σ 78 m ≤ 300)
/-- lamps -/
abbrev RlL (σ : Hp) (N : Nat) : Prop := (∀ k : Int, 0 ≤ k → k < 20 → hI σ 20 k = hI σ 87 k ∧ inR (hI σ 87 k)) ∧ (∀ k : Int, (N : Int) ≤ k → k < 20 → hI σ 87 k = -1) ∧ L20 σ
/-- strips -/
abbrev RlS (σ : Hp) (N S : Nat) : Prop := hI σ 48 = hI σ 100 ∧ hI σ 49 = hI σ 101 ∧ hL σ 50 = (fun k => (hD σ 102 k).toInt64) ∧ (∀ s : Int, 0 ≤ s → s < S → (0 ≤ hI σ 101 s ∧ hI σ 101 s ≤ 120) ∧ 0 ≤ hI σ 100 s ∧ hI σ 100 s < N) ∧ (∀ k : Int, 0 ≤ k → k < 720 → vf_n64 (hD σ 102 k))
/-- what was swept -/
abbrev RlW (σ : Hp) : Prop := ∀ j : Int, 0 ≤ j → j < hI σ 69 41 → hD σ 52 j = hD σ 103 j ∧ mg (hD σ 103 j) 1024 ∧ hD σ 103 j ≠ 9223372036854775808
/-- what holds in every mode -/
abbrev RlM (σ : Hp) (N : Nat) : Prop := RdR σ ∧ Zr σ N ∧ Zt σ N ∧ K20 σ ∧ (hI σ 3 3 = 0 → LevR σ (hI σ 72) N) ∧ (∀ m : Int, 0 ≤ m → m < 20 → vf_n64 (hD σ 88 m) ∧ vf_n64 (hD σ 89 m))
/-- what holds where the twins are worked -/
abbrev RlO (σ : Hp) (N : Nat) : Prop := hI σ 3 3 = 0 ∧ (chk (hI σ 70) (hI σ 72) (hI σ 75) N).1 = 0 ∧ Ag (hI σ 79) (lvC (hI σ 70) (hI σ 72) N) N ∧ WS σ N ∧ Tws σ (hI σ 72) (hD σ 71) (xF (hD σ 71)) (nnR σ) (ords (hI σ 79) N) N (ptD σ N) (ptF σ N) (tsD σ) (tsF σ) ∧ (∀ m : Int, 0 ≤ m → m < N → hD σ 2 m = hD σ 88 m ∧ (hD σ 88 m).toNat < 1030 * 2 ^ 52) ∧ (∀ m : Int, 0 ≤ m → m < N → hL σ 1 m = (if hI σ 70 m = 2 then (hD σ 89 m).toInt64 else 0) ∧ vf_n64 (hD σ 89 m)) ∧ (∀ m : Int, 0 ≤ m → m < N → hD σ 82 m ≠ 9223372036854775808 ∧ hF σ 83 m ≠ 2147483648)
abbrev RlN (σ : Hp) (N S : Nat) : Prop := RlA σ N S ∧ RlB σ N ∧ RlP σ N ∧ RlL σ N ∧ RlS σ N S ∧ RlW σ ∧ RlM σ N ∧ (¬ hI σ 69 11 = 0 → RlO σ N)
def Rel (σ : Hp) : Prop := ∃ N S : Nat, RlN σ N S
/-- both calls: one answer -/
abbrev PrI (mx mm : Mt) (a : List PV) (σ : Hp) : Prop := Sp mx (vR 0 :: a) σ (fun r τ => ∃ v : Int, r = some (vI v) ∧ Sp mm (vR 69 :: a) τ (fun r2 ω => r2 = some (vI v) ∧ Rel ω))
abbrev PrL (mx mm : Mt) (a : List PV) (σ : Hp) : Prop := Sp mx (vR 0 :: a) σ (fun r τ => ∃ v : Int64, r = some (vL v) ∧ Sp mm (vR 69 :: a) τ (fun r2 ω => r2 = some (vL v) ∧ Rel ω))
section REL
variable {σ : Hp} {N S : Nat}
theorem RlA.sc (h : RlA σ N S) : Sc σ := by
  obtain ⟨⟨a1, a2, a3⟩, ⟨b1, b2, b3⟩, c, d, e, f, g, i, _⟩ := h
  exact ⟨by omega, by omega, by omega, by omega⟩
theorem RlA.sz (h : RlA σ N S) : SzC σ := by
  obtain ⟨⟨a1, a2, a3⟩, ⟨b1, b2, b3⟩, c, d, e, f, g, i, _⟩ := h
  exact ⟨by omega, by constructor <;> omega, by omega⟩
theorem RlN.ct (h : RlN σ N S) : CtI σ (hI σ 72) N := by
  obtain ⟨⟨⟨a1, a2, a3⟩, _⟩, ⟨b1, b2, b3, b4, b5, b6, b7, b8, b9, b10, b11⟩, ⟨p1, p2, p3, p4, p5, p6, p7, p8, p9, p10⟩, _⟩ := h
  refine ⟨a1, a3, fun m x y => ?_, fun m i x y i0 i1 => ⟨?_, p3 m x y i i0 i1, ?_⟩⟩
  · rw [b1]; exact (p1 m x y).1
  · rw [b6 _ (by omega) (by omega), show m * 6 + i = 6 * m + i by omega]
  · rw [b7]; exact p5 _ (by omega) (by omega)
theorem RlN.kd (h : RlN σ N S) : ∀ m : Int, 0 ≤ m → m < N → inR (hI σ 70 m) := fun m x y => by
  have := (h.2.2.1.1 m x y).1
  constructor <;> omega
theorem pr_now (h : Rel σ) : PrI mX_now mM_now [] σ := by
  have h0 := h
  obtain ⟨N, S, hA, _⟩ := h0
  exact cX_now ⟨_, rfl, cM_now ⟨by rw [hA.2.2.1.1], h⟩⟩
theorem pr_time (h : Rel σ) : PrI mX_time mM_time [] σ := by
  have h0 := h
  obtain ⟨N, S, hA, _⟩ := h0
  exact cX_time ⟨_, rfl, cM_time ⟨by rw [hA.2.2.2.1.1], h⟩⟩
theorem pr_broken (h : Rel σ) : PrI mX_broken mM_broken [] σ := by
  have h0 := h
  obtain ⟨N, S, hA, _⟩ := h0
  exact cX_broken ⟨_, rfl, cM_broken ⟨by rw [hA.2.2.2.2.1.1], h⟩⟩
theorem RlA.m (h : RlA σ N S) {m : Int} : cM σ m ↔ isM σ m := by
  obtain ⟨⟨a1, a2, a3⟩, _⟩ := h
  unfold cM isM; rw [a1, a2]
theorem RlA.s (h : RlA σ N S) {m : Int} : cSt σ m ↔ isS σ m := by
  obtain ⟨_, ⟨a1, a2, a3⟩, _⟩ := h
  unfold cSt isS; rw [a1, a2]
theorem RlA.n (h : RlA σ N S) {m : Int} (g : cM σ m) : 0 ≤ m ∧ m < N := by
  have := h.1.1
  unfold cM at g; omega
theorem RlA.ns (h : RlA σ N S) {m : Int} (g : cSt σ m) : 0 ≤ m ∧ m < S := by
  have := h.2.1.1
  unfold cSt at g; omega
theorem RlA.o (h : RlA σ N S) : hI σ 0 9 = 0 ↔ hI σ 69 11 = 0 := by rw [h.2.2.1.1]
theorem pr_lamp {m : Int} (h : Rel σ) (hm : inR m) : PrI mX_lamp mM_lamp [vI m] σ := by
  have h0 := h
  obtain ⟨N, S, hA, hB, hP, hLa, hS, hW, hM, hO⟩ := h0
  refine cX_lamp hA.sz hm (fun g => ⟨_, rfl, cM_lamp hA.sc hm ⟨?_, h⟩⟩) (fun g => ⟨_, rfl, cM_lamp hA.sc hm ⟨?_, h⟩⟩)
  · rw [if_neg (fun q => g (hA.m.mpr q))]
  · have g2 := hA.n g
    rw [if_pos (hA.m.mp g), (hLa.1 m g2.1 (by have := hA.1.2.2; omega)).1]
theorem pr_samples {m : Int} (h : Rel σ) (hm : inR m) : PrI mX_samples mM_samples [vI m] σ := by
  have h0 := h
  obtain ⟨N, S, hA, hB, hP, hLa, hS, hW, hM, hO⟩ := h0
  refine cX_samples hA.sz hm (fun g => ⟨_, rfl, cM_samples hA.sc hm ⟨?_, h⟩⟩) (fun g => ⟨_, rfl, cM_samples hA.sc hm ⟨?_, h⟩⟩)
  · rw [if_neg (fun q => g (hA.s.mpr q))]
  · rw [if_pos (hA.s.mp g), hS.2.1]
theorem rd_b (h : RlO σ N) {m : Int} (x : 0 ≤ m) (y : m < N) : hD σ 22 m = hD σ 82 m ∧ mg (hD σ 82 m) 1024 ∧ hD σ 35 m = FP.f2d (hF σ 83 m) ∧ mf (hF σ 83 m) 128 := by
  obtain ⟨_, _, _, _, ⟨⟨_, a2, _, _⟩, ⟨_, b2, _, _⟩, _⟩, _⟩ := h
  exact ⟨(a2 m x y).1, (a2 m x y).2, (b2 m x y).1, (b2 m x y).2⟩
theorem pr_reading {m : Int} (h : Rel σ) (hm : inR m) : PrL mX_reading mM_reading [vI m] σ := by
  have h0 := h
  obtain ⟨N, S, hA, hB, hP, hLa, hS, hW, hM, hO⟩ := h0
  have hN := hA.1.2.2
  have hb : isM σ m → vf_n64 (hD σ 82 m) := fun g => by
    have g2 := hA.n (hA.m.mpr g)
    exact (hM.1.1 m g2.1 (by omega)).1.nn (by decide)
  refine cX_reading hA.sz hm (fun g1 g2 => ?_) (fun g => ⟨_, rfl, cM_reading hA.sc hm hb ⟨?_, h⟩⟩) (fun g1 g2 => ⟨_, rfl, cM_reading hA.sc hm hb ⟨?_, h⟩⟩)
  · have g3 := hA.n g2
    have o := hO (fun q => g1 (hA.o.mpr q))
    obtain ⟨r1, r2, _⟩ := rd_b o g3.1 g3.2
    rw [r1]
    exact ⟨Nat.lt_of_lt_of_le r2 (by decide), fun q => (o.2.2.2.2.2.2.2 m g3.1 g3.2).1 (UInt64.toNat_inj.mp q)⟩
  · rw [if_neg (fun q => g ⟨fun z => q.2 (hA.o.mp z), hA.m.mpr q.1⟩)]
  · have g3 := hA.n g2
    have o := hO (fun q => g1 (hA.o.mpr q))
    rw [if_pos ⟨hA.m.mp g2, fun q => g1 (hA.o.mpr q)⟩, (rd_b o g3.1 g3.2).1]
theorem pr_single {m : Int} (h : Rel σ) (hm : inR m) : PrI mX_single mM_single [vI m] σ := by
  have h0 := h
  obtain ⟨N, S, hA, hB, hP, hLa, hS, hW, hM, hO⟩ := h0
  have hN := hA.1.2.2
  have hb : isM σ m → vf_n32 (hF σ 83 m) := fun g => by
    have g2 := hA.n (hA.m.mpr g)
    exact (hM.1.1 m g2.1 (by omega)).2.1.nn (by decide)
  refine cX_single (a := hF σ 83 m) hA.sz hm (fun g1 g2 => ?_) (fun g => ⟨_, rfl, cM_single hA.sc hm hb ⟨?_, h⟩⟩) (fun g1 g2 => ⟨_, rfl, cM_single hA.sc hm hb ⟨?_, h⟩⟩)
  · have g3 := hA.n g2
    have o := hO (fun q => g1 (hA.o.mpr q))
    obtain ⟨_, _, r3, r4⟩ := rd_b o g3.1 g3.2
    exact ⟨r3, Nat.lt_of_lt_of_le r4 (by decide), fun q => (o.2.2.2.2.2.2.2 m g3.1 g3.2).2 (UInt32.toNat_inj.mp q)⟩
  · rw [if_neg (fun q => g ⟨fun z => q.2 (hA.o.mp z), hA.m.mpr q.1⟩)]
  · rw [if_pos ⟨hA.m.mp g2, fun q => g1 (hA.o.mpr q)⟩]
theorem pr_apart {m : Int} (h : Rel σ) (hm : inR m) : PrL mX_apart mM_apart [vI m] σ := by
  have h0 := h
  obtain ⟨N, S, hA, hB, hP, hLa, hS, hW, hM, hO⟩ := h0
  have hN := hA.1.2.2
  have hx : isM σ m → vf_n64 (hD σ 88 m) := fun g => by
    have g2 := hA.n (hA.m.mpr g)
    exact (hM.2.2.2.2.2 m g2.1 (by omega)).1
  refine cX_apart hA.sz hm (fun g1 g2 => ?_) (fun g => ⟨_, rfl, cM_apart hA.sc hm hx ⟨?_, h⟩⟩) (fun g1 g2 => ⟨_, rfl, cM_apart hA.sc hm hx ⟨?_, h⟩⟩)
  · have g3 := hA.n g2
    have o := hO (fun q => g1 (hA.o.mpr q))
    obtain ⟨r1, r2⟩ := o.2.2.2.2.2.1 m g3.1 g3.2
    rw [r1]
    exact ⟨by omega, by omega⟩
  · rw [if_neg (fun q => g ⟨fun z => q.2 (hA.o.mp z), hA.m.mpr q.1⟩)]
  · have g3 := hA.n g2
    have o := hO (fun q => g1 (hA.o.mpr q))
    rw [if_pos ⟨hA.m.mp g2, fun q => g1 (hA.o.mpr q)⟩, (o.2.2.2.2.2.1 m g3.1 g3.2).1]
theorem pr_rate {m : Int} (h : Rel σ) (hm : inR m) : PrL mX_rate mM_rate [vI m] σ := by
  have h0 := h
  obtain ⟨N, S, hN⟩ := h0
  have hkd := RlN.kd hN
  obtain ⟨hA, hB, hP, hLa, hS, hW, hM, hO⟩ := hN
  have hk : isM σ m → inR (hI σ 70 m) := fun g => by
    have g2 := hA.n (hA.m.mpr g)
    exact hkd m g2.1 g2.2
  have hN := hA.1.2.2
  have hx : isM σ m → vf_n64 (hD σ 89 m) := fun g => by
    have g2 := hA.n (hA.m.mpr g)
    exact (hM.2.2.2.2.2 m g2.1 (by omega)).2
  refine cX_rate hA.sz hm (fun g => ⟨_, rfl, cM_rate hA.sc hm hk hx ⟨?_, h⟩⟩) (fun g1 g2 => ⟨_, rfl, cM_rate hA.sc hm hk hx ⟨?_, h⟩⟩)
  · rw [if_neg (fun q => g ⟨fun z => q.2.1 (hA.o.mp z), hA.m.mpr q.1⟩)]
  · have g3 := hA.n g2
    have o := hO (fun q => g1 (hA.o.mpr q))
    rw [(o.2.2.2.2.2.2.1 m g3.1 g3.2).1]
    by_cases k : hI σ 70 m = 2
    · rw [if_pos k, if_pos ⟨hA.m.mp g2, fun q => g1 (hA.o.mpr q), k⟩]
    · rw [if_neg k, if_neg (fun q => k q.2.2)]
theorem pr_sample {s i : Int} (h : Rel σ) (hm : inR s) (hi : inR i) : PrL mX_sample mM_sample [vI s, vI i] σ := by
  have h0 := h
  obtain ⟨N, S, hA, hB, hP, hLa, hS, hW, hM, hO⟩ := h0
  have e := hS.2.1
  have hl : cSt σ s → 0 ≤ hI σ 101 s ∧ hI σ 101 s ≤ 120 := fun g => (hS.2.2.2.1 s (hA.ns g).1 (hA.ns g).2).1
  refine cX_sample hA.sz hm hi (fun g => by rw [e]; exact hl g) (fun g => ⟨_, rfl, cM_sample hA.sc hm hi (fun g => hl (hA.s.mpr g)) hS.2.2.2.2 ⟨?_, h⟩⟩) (fun g1 g2 => ⟨_, rfl, cM_sample hA.sc hm hi (fun g => hl (hA.s.mpr g)) hS.2.2.2.2 ⟨?_, h⟩⟩)
  · rw [e] at g
    rw [if_neg (fun q => g ⟨hA.s.mpr q.1, q.2⟩)]
  · rw [e] at g2
    rw [if_pos ⟨hA.s.mp g1, g2⟩, hS.2.2.1]
theorem pr_crossing {s k : Int} (h : Rel σ) (hm : inR s) (hk : inR k) : PrI mX_crossing mM_crossing [vI s, vI k] σ := by
  have h0 := h
  obtain ⟨N, S, hA, hB, hP, hLa, hS, hW, hM, hO⟩ := h0
  have e := hS.2.1
  have hl : cSt σ s → 0 ≤ hI σ 101 s ∧ hI σ 101 s ≤ 120 := fun g => (hS.2.2.2.1 s (hA.ns g).1 (hA.ns g).2).1
  refine cX_crossing hA.sz hm hk (fun g => by rw [e]; exact hl g) (fun g => ⟨_, rfl, cM_crossing hA.sc hm hk (fun g => hl (hA.s.mpr g)) (fun _ => ⟨rfl, h⟩) (fun q => absurd (hA.s.mpr q) g)⟩) (fun g => ⟨_, rfl, cM_crossing hA.sc hm hk (fun g => hl (hA.s.mpr g)) (fun q => absurd (hA.s.mp g) q) (fun q => ⟨?_, h⟩)⟩)
  have b := hl g
  have hs := hA.ns g
  have hS6 := hA.2.1.2.2
  rw [e, plc_cg (P := crL (hL σ 50) s) (P' := crP (hD σ 102) s) _ 1 0 (fun j j0 j1 => cr_bits ⟨by rw [hS.2.2.1], hS.2.2.2.2 _ (by omega) (by omega)⟩ ⟨by rw [hS.2.2.1], hS.2.2.2.2 _ (by omega) (by omega)⟩)]
theorem pr_peak {s k : Int} (h : Rel σ) (hm : inR s) (hk : inR k) : PrI mX_peak mM_peak [vI s, vI k] σ := by
  have h0 := h
  obtain ⟨N, S, hA, hB, hP, hLa, hS, hW, hM, hO⟩ := h0
  have e := hS.2.1
  have hl : cSt σ s → 0 ≤ hI σ 101 s ∧ hI σ 101 s ≤ 120 := fun g => (hS.2.2.2.1 s (hA.ns g).1 (hA.ns g).2).1
  refine cX_peak hA.sz hm hk (fun g => by rw [e]; exact hl g) (fun g => ⟨_, rfl, cM_peak hA.sc hm hk (fun g => hl (hA.s.mpr g)) (fun _ => ⟨rfl, h⟩) (fun q => absurd (hA.s.mpr q) g)⟩) (fun g => ⟨_, rfl, cM_peak hA.sc hm hk (fun g => hl (hA.s.mpr g)) (fun q => absurd (hA.s.mp g) q) (fun q => ⟨?_, h⟩)⟩)
  have b := hl g
  have hs := hA.ns g
  have hS6 := hA.2.1.2.2
  rw [e]
  have cg : ∀ f : Nat, (f : Int) + 2 ≤ hI σ 101 s → plc (pkL (hL σ 50) (hI σ 101 s) s) k f 1 0 = plc (pkP (hD σ 102) s) k f 1 0 := fun f hf => plc_cg f 1 0 (fun j j0 j1 => pk_bits (by omega) ⟨by rw [hS.2.2.1], hS.2.2.2.2 _ (by omega) (by omega)⟩ ⟨by rw [hS.2.2.1], hS.2.2.2.2 _ (by omega) (by omega)⟩ ⟨by rw [hS.2.2.1], hS.2.2.2.2 _ (by omega) (by omega)⟩)
  by_cases l2 : 2 ≤ hI σ 101 s
  · obtain ⟨f, hf⟩ : ∃ f : Nat, (hI σ 101 s - 2).toNat = f := ⟨_, rfl⟩
    have e1 : (hI σ 101 s - 1).toNat = f + 1 := by omega
    rw [e1, hf, plc_last f 1 0 (by unfold pkL; rw [decide_eq_false (by omega)]; rfl), cg f (by omega)]
  · have e1 : (hI σ 101 s - 1).toNat = 0 := by omega
    have e2 : (hI σ 101 s - 2).toNat = 0 := by omega
    rw [e1, e2]
    rfl
theorem pr_swept {m : Int} (h : Rel σ) (hm : inR m) : PrL mX_swept mM_swept [vI m] σ := by
  have h0 := h
  obtain ⟨N, S, hA, hB, hP, hLa, hS, hW, hM, hO⟩ := h0
  have e := hA.2.2.2.2.2.2.2.1
  have hb : 0 ≤ m ∧ m < hI σ 69 41 → vf_n64 (hD σ 103 m) := fun g => (hW m g.1 g.2).2.1.nn (by decide)
  refine cX_swept hm (by rw [e.1]; exact e.2) (fun g => ?_) (fun g => ⟨_, rfl, cM_swept hA.sc hm hb ⟨?_, h⟩⟩) (fun g => ⟨_, rfl, cM_swept hA.sc hm hb ⟨?_, h⟩⟩)
  · rw [e.1] at g
    obtain ⟨r1, r2, r3⟩ := hW m g.1 g.2
    rw [r1]
    exact ⟨Nat.lt_of_lt_of_le r2 (by decide), fun q => r3 (UInt64.toNat_inj.mp q)⟩
  · rw [e.1] at g; rw [if_neg g]
  · rw [e.1] at g; rw [if_pos g, (hW m g.1 g.2).1]
theorem pr_about {m w : Int} (h : Rel σ) (hm : inR m) (hw : inR w) : PrI mX_about mM_about [vI m, vI w] σ := by
  have h0 := h
  obtain ⟨N, S, hA, hB, hP, hLa, hS, hW, hM, hO⟩ := h0
  obtain ⟨b1, b2, b3, b4, b5, b6, b7, b8, b9, b10, b11⟩ := hB
  have ht : ∀ k : Int, 0 ≤ k → k < 120 → inR (hI σ 73 k) := fun k x y => by have := hP.2.2.2.2.1 k x y; constructor <;> omega
  refine cX_about hA.sz hm hw (by rw [b7]; exact ht) ⟨_, rfl, cM_about hA.sc hm hw ht ⟨?_, h⟩⟩
  by_cases g : cM σ m
  · have g2 := hA.n g
    have hN := hA.1.2.2
    rw [if_pos g, if_pos (hA.m.mp g)]
    by_cases z : 0 ≤ w ∧ w ≤ 14
    · rw [if_pos z, if_pos z]
      unfold abC abt
      rw [b1, b7, b8, b11]
      by_cases w0 : w = 0
      · rw [if_pos w0, if_pos w0]
      · rw [if_neg w0, if_neg w0]
        by_cases w7 : w < 7
        · rw [if_pos w7, if_pos w7, b6 _ (by omega) (by omega)]
        · rw [if_neg w7, if_neg w7]
    · rw [if_neg z, if_neg z]
  · rw [if_neg g, if_neg (fun q => g (hA.m.mpr q))]
end REL
