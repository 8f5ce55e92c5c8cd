/-! ===== class and reference: behind START, whole ===== -/
section RSV
variable {τ ν : Hp} {N S : Nat}
theorem st_post {rD : Int → UInt64} {rF : Int → UInt32} {re : Int → Int} (h : RlN τ N S) (h3 : hI τ 3 3 = 0) (hk : (chk (hI τ 70) (hI τ 72) (hI τ 75) N).1 = 0) (s : StF τ ν N S rD rF) (w : WS (moH ν N S re) N) (z : Zr (moH ν N S re) N) : RlN (moH ν N S re) N S := by
  obtain ⟨F, hT, q20, q0, q19, q2, q1, ⟨rr, hrr, q50⟩, q49⟩ := s
  have lev := RlN.lev h h3
  have em := mdl_eq F.1 (by decide)
  obtain ⟨rI, rFF, rDD⟩ := row_md em
  have fo := fo_mo (ν := ν) (N := N) (S := S) (re := re)
  have ec := cls_eq fo (by decide)
  obtain ⟨cI, cL, cD⟩ := row_cl ec
  obtain ⟨t1, t2, t3, t4, t5, t6⟩ := st_tw (rD := rD) (rF := rF) (re := re) h hk em
  obtain ⟨a1, a2⟩ := st_apra (N := N) (S := S) (re := re) em
  obtain ⟨w1, w2⟩ := st_wo h hk
  obtain ⟨hA, hB, hP, hLa, hS, hW, hM, hO⟩ := h
  have n20 := hA.1.2.2
  have q20 : hI ν 20 = lms (pw (hI τ 20) (fun _ => -1) 20) 0 (StB τ N rD rF) := q20
  have q0 : hI ν 0 = fup (fup (hI τ 0) 9 1) 10 0 := q0
  have q2 : hD ν 2 = pw (pw (hD τ 2) (fun _ => FP.dconst0) N) (fun m => gdf ((gT0 (hD τ 74) (hD τ 71) (StP τ N) rD).1 m) ((gT0F (hD τ 74) (hD τ 71) (StQ τ N) rF).1 m) (pw (hD τ 2) (fun _ => FP.dconst0) N m)) N := q2
  have q1 : hL ν 1 = pw (hL τ 1) (raG (hI τ 4) (hI τ 72) (hI τ 10) (gT0 (hD τ 74) (hD τ 71) (StP τ N) rD).1) N := q1
  have q50 : hL ν 50 = pw (hL τ 50) (tkS (pw (hI τ 49) (fun _ => 0) S) (hI τ 48) (fun k => (rr k).toInt64) (hL τ 50)) (120 * S) := q50
  have q49 : hI ν 49 = pw (pw (hI τ 49) (fun _ => 0) S) (fun s => pw (hI τ 49) (fun _ => 0) S s + 1) S := q49
  have m69 : hI (moH ν N S re) 69 = fup (fup (fup (hI τ 69) 11 1) 12 0) 44 0 := by
    have e : hI (moH ν N S re) 69 = hI (begH (mdH ν re) N) 69 := rfl
    rw [e, begH_69]
    show fup (fup (fup (hI ν 69) 11 1) 12 0) 44 0 = _
    rw [rI 69 (by decide)]
  have m101 : hI (moH ν N S re) 101 = pw (pw (hI τ 101) (fun _ => 0) S) (fun s => pw (hI τ 101) (fun _ => 0) S s + 1) S := by
    rw [← rI 101 (by decide)]; rfl
  have m102 : hD (moH ν N S re) 102 = pw (hD τ 102) (tkS (pw (hI τ 101) (fun _ => 0) S) (hI τ 100) (hD (moH ν N S re) 82) (hD τ 102)) (120 * S) := by
    rw [← rI 101 (by decide), ← rI 100 (by decide), ← rDD 102 (by decide)]; rfl
  have m79 : hI (moH ν N S re) 79 = lvs (hI τ 70) (hI τ 72) (hI ν 79) N := by
    rw [← rI 70 (by decide), ← rI 72 (by decide)]; rfl
  have mI : ∀ c : Nat, ¬ c < 69 → c ∉ MoC → hI (moH ν N S re) c = hI τ c := fun c a b => (fo.I b).trans (rI c a)
  have mF : ∀ c : Nat, ¬ c < 69 → c ∉ MoC → hF (moH ν N S re) c = hF τ c := fun c a b => (fo.F b).trans (rFF c a)
  have mD : ∀ c : Nat, ¬ c < 69 → c ∉ MoC → hD (moH ν N S re) c = hD τ c := fun c a b => (fo.D b).trans (rDD c a)
  have xI : ∀ c : Nat, c < 69 → c ∉ TL → hI (moH ν N S re) c = hI τ c := fun c a b => (cI c a).trans (F.I b)
  have xL : ∀ c : Nat, c < 69 → c ∉ TL → hL (moH ν N S re) c = hL τ c := fun c a b => (cL c a).trans (F.L b)
  have xD : ∀ c : Nat, c < 69 → c ∉ TL → hD (moH ν N S re) c = hD τ c := fun c a b => (cD c a).trans (F.D b)
  have x0 := (cI 0 (by decide)).trans q0
  have x1 := (cL 1 (by decide)).trans q1
  have x2 := (cD 2 (by decide)).trans q2
  have x20 := (cI 20 (by decide)).trans q20
  have x49 := (cI 49 (by decide)).trans q49
  have x50 := (cL 50 (by decide)).trans q50
  have k20 : K20 (moH ν N S re) := fo.k20 (by decide) (F.2 hM.2.2.2.1)
  have hT2 := tws_cl hT ec
  have levν : LevR (moH ν N S re) (hI τ 72) N := by
    unfold LevR OrdC
    rw [xI 16 (by decide) (by decide), xI 4 (by decide) (by decide), xI 18 (by decide) (by decide), xI 15 (by decide) (by decide), xI 17 (by decide) (by decide)]
    exact lev
  clear F hT q20 q0 q19 q2 q1 q50 q49 em rI rFF rDD fo ec cI cL cD
  generalize moH ν N S re = ω at *
  have rdr := ws_rdr w
  have rdm : ∀ m : Int, 0 ≤ m → m < N → mg (hD ω 82 m) 1024 ∧ mf (hF ω 83 m) 128 := fun m x y => ⟨(rdr.1 m x (by omega)).1, (rdr.1 m x (by omega)).2.1⟩
  have tw := tws_ag hT2 t3 t4
  have rD_eq : ∀ m : Int, 0 ≤ m → m < N → (gT0 (hD τ 74) (hD τ 71) (StP τ N) rD).1 m = hD ω 82 m := t3.1
  have rF_eq : ∀ m : Int, 0 ≤ m → m < N → (gT0F (hD τ 74) (hD τ 71) (StQ τ N) rF).1 m = hF ω 83 m := t4.1
  have a88 : ∀ m : Int, 0 ≤ m → m < N → (hD ω 88 m).toNat < 1030 * 2 ^ 52 := fun m x y => by
    rw [(a1 m x y).1]
    exact gdf_ok (rdm m x y).1 (rdm m x y).2 (by decide)
  have a89 : ∀ m : Int, 0 ≤ m → m < N → vf_n64 (hD ω 89 m) := fun m x y => by
    rw [(a1 m x y).2]
    by_cases k : hI τ 70 m = 2
    · rw [if_pos k]
      exact (gsum_mg (fun j hj g => by
        have := hP.2.2.1 m x y j (by omega) (by omega)
        exact (rdm _ (by omega) (by omega)).1) 6 (by decide)).nn (by decide)
    · rw [if_neg k]; exact (mg_d0 1).nn (by decide)
  refine ⟨?_, ?_, ?_, ?_, ?_, ?_, ?_, fun _ => ?_⟩
  · unfold RlA at hA ⊢
    rw [xI 3 (by decide) (by decide), xI 47 (by decide) (by decide), xI 51 (by decide) (by decide), xI 21 (by decide) (by decide), xI 34 (by decide) (by decide), xI 56 (by decide) (by decide), x0, m69]
    simp [fup]
    omega
  · unfold RlB
    rw [xI 4 (by decide) (by decide), xL 5 (by decide) (by decide), xD 6 (by decide) (by decide), xL 7 (by decide) (by decide), xD 8 (by decide) (by decide), xI 9 (by decide) (by decide), xI 10 (by decide) (by decide), xI 11 (by decide) (by decide), xD 12 (by decide) (by decide), xD 13 (by decide) (by decide), xI 14 (by decide) (by decide), mI 70 (by decide) (by decide), mD 71 (by decide) (by decide), mI 72 (by decide) (by decide), mI 73 (by decide) (by decide), mD 74 (by decide) (by decide), mI 75 (by decide) (by decide), mD 76 (by decide) (by decide), mD 77 (by decide) (by decide), mI 78 (by decide) (by decide)]
    exact hB
  · unfold RlP
    rw [mI 70 (by decide) (by decide), mD 71 (by decide) (by decide), mI 72 (by decide) (by decide), mI 73 (by decide) (by decide), mD 74 (by decide) (by decide), mI 75 (by decide) (by decide), mD 76 (by decide) (by decide), mD 77 (by decide) (by decide), mI 78 (by decide) (by decide)]
    exact hP
  · have no : ∀ k : Int, (N : Int) ≤ k → StB τ N rD rF k = false := fun k hk => by
      show ((gRd arD (StP τ N) (fun j => hD τ 74 (j / 16)) (hD τ 74) rD).2 k || (gRd arF (StQ τ N) (fun j => bgXF (hD τ 74) (j / 16)) (bgXF (hD τ 74)) rF).2 k) = false
      rw [gRd_no w1 hk, gRd_no w2 hk]; rfl
    have v1 : ∀ k : Int, 0 ≤ k → k < 20 → pw (hI τ 87) (fun _ => -1) N k = -1 := fun k x y => by
      by_cases c : k < N
      · rw [pw_lo x c]
      · rw [pw_hi (by omega)]; exact hLa.2.1 k (by omega) y
    have v2 : ∀ k : Int, 0 ≤ k → k < 20 → pw (hI τ 20) (fun _ => -1) 20 k = -1 := fun k x y => pw_lo (f := hI τ 20) (g := fun _ => -1) (n := 20) x y
    refine ⟨fun k x y => ⟨?_, ?_⟩, fun k x y => ?_, ?_⟩
    · rw [x20, t5]
      unfold lms
      rw [v1 k x y, v2 k x y]
    · rw [t5]
      exact lms_inR (by rw [v1 k x y]; constructor <;> decide) (by constructor <;> decide)
    · rw [t5]
      unfold lms
      rw [no k x, if_neg (fun q => by cases q.1)]
      exact v1 k (by omega) y
    · unfold L20
      rw [xI 55 (by decide) (by decide), xI 54 (by decide) (by decide)]
      exact hLa.2.2
  · obtain ⟨s1, s2, s3, s4, s5⟩ := hS
    have hS6 := hA.2.1.2.2
    have so : ∀ j : Int, 0 ≤ j → j < (120 * S : Nat) → 0 ≤ hI τ 100 (j / 120) ∧ hI τ 100 (j / 120) < N := fun j x y => (s4 (j / 120) (by omega) (by omega)).2
    refine ⟨?_, ?_, ?_, fun s x y => ⟨?_, ?_⟩, fun j x y => ?_⟩
    · rw [xI 48 (by decide) (by decide), mI 100 (by decide) (by decide)]; exact s1
    · rw [x49, m101, s2]
    · rw [x50, m102, s2, s1, s3]
      funext j
      by_cases c : 0 ≤ j ∧ j < (120 * S : Nat)
      · rw [pw_lo c.1 c.2, pw_lo c.1 c.2]
        unfold tkS
        by_cases g : j = 120 * (j / 120) + pw (hI τ 101) (fun _ => 0) S (j / 120)
        · rw [if_pos g, if_pos g]
          have b := so j c.1 c.2
          show (rr _).toInt64 = _
          rw [hrr _ b.1 b.2, rD_eq _ b.1 b.2]
        · rw [if_neg g, if_neg g]
      · unfold pw
        rw [if_neg c, if_neg c]
    · rw [m101]
      have e : pw (pw (hI τ 101) (fun _ => 0) S) (fun s => pw (hI τ 101) (fun _ => 0) S s + 1) S s = 1 := by
        rw [pw_lo x y]
        show pw (hI τ 101) (fun _ => 0) S s + 1 = 1
        rw [pw_lo x y]; rfl
      rw [e]; omega
    · rw [mI 100 (by decide) (by decide)]; exact (s4 s x y).2
    · rw [m102]
      unfold pw
      by_cases c : 0 ≤ j ∧ j < (120 * S : Nat)
      · rw [if_pos c]
        unfold tkS
        split
        · have b := so j c.1 c.2
          exact (rdm _ b.1 b.2).1.nn (by decide)
        · exact s5 j x y
      · rw [if_neg c]; exact s5 j x y
  · unfold RlW at hW ⊢
    rw [xD 52 (by decide) (by decide), mD 103 (by decide) (by decide), m69, fup_n (by decide), fup_n (by decide), fup_n (by decide)]
    exact hW
  · obtain ⟨m1, m2, m3, m4, m5, m6⟩ := hM
    refine ⟨rdr, z, ?_, k20, fun _ => ?_, fun m x y => ?_⟩
    · unfold Zt
      rw [mD 115 (by decide) (by decide), mF 116 (by decide) (by decide)]; exact m3
    · rw [mI 72 (by decide) (by decide)]; exact levν
    · by_cases c : m < N
      · exact ⟨vn64.mpr (by have := a88 m x c; omega), a89 m x c⟩
      · rw [(a2 m (by omega)).1, (a2 m (by omega)).2]; exact m6 m x y
  · refine ⟨?_, ?_, ?_, w, ?_, fun m x y => ⟨?_, a88 m x y⟩, fun m x y => ⟨?_, a89 m x y⟩, t6⟩
    · rw [xI 3 (by decide) (by decide)]; exact h3
    · rw [mI 70 (by decide) (by decide), mI 72 (by decide) (by decide), mI 75 (by decide) (by decide)]; exact hk
    · rw [mI 70 (by decide) (by decide), mI 72 (by decide) (by decide), m79]; exact lvs_ag hP.2.2.1
    · have eo : ords (hI ω 79) N = ords (lvC (hI τ 70) (hI τ 72) N) N := by rw [m79]; exact ords_ag (lvs_ag hP.2.2.1)
      have enn : nnR ω = nnR τ := by unfold nnR; rw [mD 71 (by decide) (by decide)]
      rw [t1, t2, eo, enn, mI 72 (by decide) (by decide), mD 71 (by decide) (by decide)]
      exact tw
    · rw [x2, (a1 m x y).1, pw_lo x y, pw_lo x y, rD_eq m x y, rF_eq m x y]
    · rw [x1, pw_lo x y, (a1 m x y).2]
      unfold raG
      rw [hB.1, hB.2.2.2.2.2.2.1, mI 70 (by decide) (by decide)]
      by_cases k : hI τ 70 m = 2
      · rw [if_pos k, if_pos k, if_pos k]
        rw [gsum_cg (r := (gT0 (hD τ 74) (hD τ 71) (StP τ N) rD).1) (r' := hD ω 82) 6 (fun j hj g => by
          have := hP.2.2.1 m x y j (by omega) (by omega)
          exact rD_eq _ (by omega) (by omega))]
      · rw [if_neg k, if_neg k]
end RSV
