/-! ===== class and reference: START ===== -/
abbrev TL : List Nat := [0, 1, 2, 19, 23, 36, 49, 50] ++ TwC
section RST
variable {τ ν : Hp} {N S : Nat}
abbrev StP (τ : Hp) (N : Nat) : Pt UInt64 := (hI τ 70, hD τ 71, hI τ 72, hI τ 73, hD τ 76, hD τ 77, hI τ 75, nnR τ, ords (lvC (hI τ 70) (hI τ 72) N) N, N, hI τ 69 13)
abbrev StQ (τ : Hp) (N : Nat) : Pt UInt32 := (hI τ 70, xF (hD τ 71), hI τ 72, hI τ 73, xF (hD τ 76), xF (hD τ 77), hI τ 75, nnR τ, ords (lvC (hI τ 70) (hI τ 72) N) N, N, hI τ 69 13)
abbrev StB (τ : Hp) (N : Nat) (rD : Int → UInt64) (rF : Int → UInt32) : Int → Bool := fun m => (gRd arD (StP τ N) (fun j => hD τ 74 (j / 16)) (hD τ 74) rD).2 m || (gRd arF (StQ τ N) (fun j => bgXF (hD τ 74) (j / 16)) (bgXF (hD τ 74)) rF).2 m
/-- what the class leaves behind START -/
abbrev StF (τ ν : Hp) (N S : Nat) (rD : Int → UInt64) (rF : Int → UInt32) : Prop := Fq TL τ ν ∧ Tws ν (hI τ 72) (hD τ 71) (xF (hD τ 71)) (nnR τ) (ords (lvC (hI τ 70) (hI τ 72) N) N) N (StP τ N) (StQ τ N) (gT0 (hD τ 74) (hD τ 71) (StP τ N) rD) (gT0F (hD τ 74) (hD τ 71) (StQ τ N) rF) ∧ StO (wI τ 0 (fup (hI τ 0) 9 1)) ν (hI τ 72) (gT0 (hD τ 74) (hD τ 71) (StP τ N) rD) (gT0F (hD τ 74) (hD τ 71) (StQ τ N) rF) (StB τ N rD rF) N S
theorem st_wo (h : RlN τ N S) (hk : (chk (hI τ 70) (hI τ 72) (hI τ 75) N).1 = 0) : WO (StP τ N) ∧ WO (StQ τ N) := ⟨wo_of (RlN.wp h hk) hk rfl rfl rfl rfl rfl (fun _ _ _ => rfl), wo_of (RlN.wp h hk) hk rfl rfl rfl rfl rfl (fun _ _ _ => rfl)⟩
theorem st_class {Q : Option PV → Hp → Prop} (h : RlN τ N S) (h3 : hI τ 3 3 = 0) (hk : (chk (hI τ 70) (hI τ 72) (hI τ 75) N).1 = 0) (hQ : ∀ rD rF ν, StF τ ν N S rD rF → Q none ν) : Sp mX_toStart [vR 0] (wI τ 0 (fup (hI τ 0) 9 1)) Q := by
  have hct := RlN.ct h
  have wp := RlN.wp h hk
  have wo := (st_wo h hk).1
  have lev := RlN.lev h h3
  obtain ⟨hA, hB, hP, hLa, hS, hW, hM, hO⟩ := h
  obtain ⟨b1, b2, b3, b4, b5, b6, b7, b8, b9, b10, b11⟩ := hB
  obtain ⟨p1, p2, p3, p4, p5, p6, p7, p8, p9, p10⟩ := hP
  have n20 := hA.1.2.2
  obtain ⟨rF, hrF⟩ := k20_F hM.2.2.2.1
  have F0 : Fq [0] τ (wI τ 0 (fup (hI τ 0) 9 1)) := Fq.rf.wI (by decide)
  have esv : svC τ (-1) FP.dconst0 = hD τ 71 := by
    funext m
    unfold svC
    by_cases e : m = -1
    · rw [if_pos e, e, p2]
    · rw [if_neg e, b3]
  have sv : svC (wI τ 0 (fup (hI τ 0) 9 1)) (-1) FP.dconst0 = hD τ 71 := esv
  have lev3 : OrdC τ (ords (lvC (hI τ 70) (hI τ 72) N) N) N := by
    have := lev.2.2
    rw [b1] at this
    exact this
  have hpw : PatW τ (hI τ 72) N := fun m x y => by
    obtain ⟨⟨g1, g2, g3, g4, g5, g6, g7⟩, ⟨x1, x2⟩, _⟩ := wp.2.2.2 m x y
    rw [b1, b8, b9, b10]
    exact ⟨g4, g5, x1, fun k => (x2 k).1⟩
  have hsx : ∀ m : Int, 0 ≤ m → m < N → vf_n64 (hD τ 71 m) ∧ (hD τ 74 m).toNat % 2 ^ 63 ≤ 4609434218613702656 ∧ (hI τ 70 m = 10 ∨ hI τ 70 m = 12 → BdD (hD τ 71 m) ∧ BdF (FP.d2f (hD τ 71 m))) ∧ (hI τ 70 m = 11 → (1 ≤ nnR τ m ∧ nnR τ m ≤ 16) ∧ SCmp (rndC false (hD τ 71 m)) (nnR τ m) ∧ SCmp (rndC true (hD τ 71 m)) (nnR τ m)) := fun m x y => by
    obtain ⟨_, q2, q3⟩ := p1 m x y
    refine ⟨q2, p9 m x (by omega), fun k => set_bdD q2 q3 k, fun k => ?_⟩
    rw [k] at q3
    exact delay_sc q2 q3
  refine cX_toStart (nn := nnR τ) (L := ords (lvC (hI τ 70) (hI τ 72) N) N) (rD := hD τ 22) (rF := rF) (fr := hI τ 72) hct hA.2.2.2.2.2.2.2.2.2.1 hA.2.2.2.2.2.2.2.2.2.2.1 hpw lev3 (fun k x y => ⟨rfl, (hM.2.2.2.1 k x (by omega)).1⟩) (fun k x y => hrF k x (by omega)) (fun m x y => ?_) (fun m x y => ?_) ⟨hA.2.1.1, hA.2.1.2.2⟩ (fun s x y => ?_) wo.2.2.2.1 (fun PD PF TD TF lb e1 e2 e3 e4 e5 ν F hT hs => ?_)
  · rw [sv]
    obtain ⟨q1, q2, q3, q4⟩ := hsx m x y
    show vf_n64 (hD τ 71 m) ∧ (hD τ 8 m).toNat % 2 ^ 63 ≤ 4609434218613702656 ∧ (hI τ 4 m = 10 ∨ hI τ 4 m = 12 → BdD (hD τ 71 m)) ∧ (hI τ 4 m = 11 → (1 ≤ nnR τ m ∧ nnR τ m ≤ 16) ∧ SCmp (rndC false (hD τ 71 m)) (nnR τ m))
    rw [b1, b5]
    exact ⟨q1, q2, fun k => (q3 k).1, fun k => ⟨(q4 k).1, (q4 k).2.1⟩⟩
  · rw [sv]
    obtain ⟨q1, q2, q3, q4⟩ := hsx m x y
    show vf_n64 (hD τ 71 m) ∧ (hD τ 8 m).toNat % 2 ^ 63 ≤ 4609434218613702656 ∧ (hI τ 4 m = 10 ∨ hI τ 4 m = 12 → BdF (FP.d2f (hD τ 71 m))) ∧ (hI τ 4 m = 11 → (1 ≤ nnR τ m ∧ nnR τ m ≤ 16) ∧ SCmp (rndC true (hD τ 71 m)) (nnR τ m))
    rw [b1, b5]
    exact ⟨q1, q2, fun k => (q3 k).2, fun k => ⟨(q4 k).1, (q4 k).2.2⟩⟩
  · show 0 ≤ hI τ 48 s ∧ hI τ 48 s < N
    rw [hS.1]; exact (hS.2.2.2.1 s x y).2
  · rw [sv] at e1 e2 e3 e4 hT
    have k1 : PD = StP τ N := by
      rw [e1]
      show (hI τ 4, hD τ 71, hI τ 72, hI τ 10, hD τ 12, hD τ 13, hI τ 11, nnR τ, ords (lvC (hI τ 70) (hI τ 72) N) N, N, hI τ 3 1) = StP τ N
      rw [b1, b7, b9, b10, b8, hA.2.2.2.2.2.1.1]
    have k2 : PF = StQ τ N := by
      rw [e2]
      show (hI τ 4, xF (hD τ 71), hI τ 72, hI τ 10, xF (hD τ 12), xF (hD τ 13), hI τ 11, nnR τ, ords (lvC (hI τ 70) (hI τ 72) N) N, N, hI τ 3 1) = StQ τ N
      rw [b1, b7, b9, b10, b8, hA.2.2.2.2.2.1.1]
    have e8 : hD (wI τ 0 (fup (hI τ 0) 9 1)) 8 = hD τ 74 := b5
    rw [e8, k1] at e3
    rw [e8, k2] at e4
    rw [e8, k1, k2] at e5
    rw [k1, k2, e3, e4] at hT
    rw [e3, e4, e5] at hs
    exact hQ (hD τ 22) rF ν ⟨(F0.weak (by decide)).trans F, hT, hs⟩
end RST
