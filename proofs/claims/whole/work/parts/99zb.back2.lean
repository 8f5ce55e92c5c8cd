/-! ===== class and reference: behind trials ===== -/
section RBL
variable {σ ν τ : Hp} {N S : Nat}
/-- the class's trials leave all else -/
theorem Rel_tr (h : RlN σ N S) (F : Fq TrC2 σ ν) (l : L20 ν) : RlN ν N S := by
  obtain ⟨hA, hB, hP, hLa, hS, hW, hM, hO⟩ := h
  have em := mdl_eq F.1 (by decide)
  obtain ⟨rI, rF, rD⟩ := row_md em
  refine ⟨?_, ?_, hP.md em, ⟨?_, ?_, l⟩, ?_, ?_, ?_, fun o => ?_⟩
  · unfold RlA
    rw [F.I (c := 3) (by decide), F.I (c := 0) (by decide), F.I (c := 47) (by decide), F.I (c := 51) (by decide), F.I (c := 21) (by decide), F.I (c := 34) (by decide), F.I (c := 56) (by decide), rI 69 (by decide)]
    exact hA
  · unfold RlB
    rw [F.I (c := 4) (by decide), F.L (c := 5) (by decide), F.D (c := 6) (by decide), F.L (c := 7) (by decide), F.D (c := 8) (by decide), F.I (c := 9) (by decide), F.I (c := 10) (by decide), F.I (c := 11) (by decide), F.D (c := 12) (by decide), F.D (c := 13) (by decide), F.I (c := 14) (by decide), rI 70 (by decide), rD 71 (by decide), rI 72 (by decide), rI 73 (by decide), rD 74 (by decide), rI 75 (by decide), rD 76 (by decide), rD 77 (by decide), rI 78 (by decide)]
    exact hB
  · rw [F.I (c := 20) (by decide), rI 87 (by decide)]; exact hLa.1
  · rw [rI 87 (by decide)]; exact hLa.2.1
  · unfold RlS
    rw [F.I (c := 48) (by decide), F.I (c := 49) (by decide), F.L (c := 50) (by decide), rI 100 (by decide), rI 101 (by decide), rD 102 (by decide)]
    exact hS
  · unfold RlW
    rw [rI 69 (by decide), F.D (c := 52) (by decide), rD 103 (by decide)]
    exact hW
  · obtain ⟨m1, m2, m3, m4, m5, m6⟩ := hM
    refine ⟨?_, ?_, ?_, F.2 m4, fun q => ?_, ?_⟩
    · unfold RdR
      rw [rD 82 (by decide), rF 83 (by decide), rD 80 (by decide), rF 81 (by decide), rD 84 (by decide), rF 85 (by decide)]; exact m1
    · unfold Zr
      rw [rI 70 (by decide), rD 115 (by decide), rF 116 (by decide)]; exact m2
    · unfold Zt
      rw [rD 115 (by decide), rF 116 (by decide)]; exact m3
    · rw [F.I (c := 3) (by decide)] at q
      unfold LevR OrdC
      rw [F.I (c := 16) (by decide), F.I (c := 4) (by decide), F.I (c := 18) (by decide), F.I (c := 15) (by decide), F.I (c := 17) (by decide), rI 72 (by decide)]
      exact m5 q
    · rw [rD 88 (by decide), rD 89 (by decide)]; exact m6
  · rw [rI 69 (by decide)] at o
    obtain ⟨o1, o2, o3, o4, o5, o6, o7, o8⟩ := hO o
    obtain ⟨e1, e2, e3, e4, e5⟩ := pt_md (N := N) em
    refine ⟨?_, ?_, ?_, ws_md o4 em, ?_, ?_, ?_, ?_⟩
    · rw [F.I (c := 3) (by decide)]; exact o1
    · rw [rI 70 (by decide), rI 72 (by decide), rI 75 (by decide)]; exact o2
    · rw [rI 70 (by decide), rI 72 (by decide), rI 79 (by decide)]; exact o3
    · rw [e1, e2, e3, e4, e5, rI 72 (by decide), rD 71 (by decide), rI 79 (by decide)]
      obtain ⟨⟨a1, a2, a3, a4⟩, ⟨b1, b2, b3, b4⟩, c⟩ := o5
      exact ⟨⟨Cxd_fr a1 F (by decide), Rdd_fr a2 F (by decide), Std_fr a3 F (by decide), Sdd_fr a4 F (by decide)⟩, ⟨Cxf_fr b1 F (by decide), Rdf_fr b2 F (by decide), Stf_fr b3 F (by decide), Sdf_fr b4 F (by decide)⟩, Lpd_fr c F (by decide)⟩
    · rw [F.D (c := 2) (by decide), rD 88 (by decide)]; exact o6
    · rw [F.L (c := 1) (by decide), rI 70 (by decide), rD 89 (by decide)]; exact o7
    · rw [rD 82 (by decide), rF 83 (by decide)]; exact o8
/-- the reference's trials, taken back -/
theorem Rel_back (h : RlN ν N S) (o : ¬ hI ν 69 11 = 0) (F : FqO TrR (kpH ν) τ) (w : WS τ N) (z : Zr τ N) (zt : Zt τ N) (lv : Ag (hI τ 79) (lvC (hI ν 70) (hI ν 72) N) N) (h69 : ∀ x : Int, ¬ x = 12 → ¬ x = 44 → hI τ 69 x = hI (kpH ν) 69 x) : RlN (bkH τ) N S := by
  obtain ⟨hA, hB, hP, hLa, hS, hW, ⟨m1, m2, m3, m4, m5, m6⟩, hO⟩ := h
  obtain ⟨o1, o2, o3, o4, o5, o6, o7, o8⟩ := hO o
  have n20 := hA.1.2.2
  obtain ⟨r1, r2⟩ := bk_rows F
  have G : FqO KbC ν (bkH τ) := (fo_kp.trans (F.weak (by decide))).trans fo_bk
  have ec := cls_eq G (by decide)
  obtain ⟨cI, cL, cD⟩ := row_cl ec
  have ekp : hI (kpH ν) 69 = fup (hI ν 69) 58 (hI ν 69 12) := rfl
  have ebk : hI (bkH τ) 69 = fup (hI τ 69) 12 (hI τ 69 58) := rfl
  have e69 : ∀ x : Int, ¬ x = 44 → ¬ x = 58 → hI (bkH τ) 69 x = hI ν 69 x := fun x a b => by
    rw [ebk]
    by_cases c : x = 12
    · rw [c, fup_s, h69 58 (by decide) (by decide), ekp, fup_s]
    · rw [fup_n c, h69 x c a, ekp, fup_n b]
  have mI : ∀ c : Nat, c ∉ KbC → hI (bkH τ) c = hI ν c := fun c a => G.I a
  have mD : ∀ c : Nat, c ∉ KbC → hD (bkH τ) c = hD ν c := fun c a => G.D a
  have e79 : hI (bkH τ) 79 = hI τ 79 := rfl
  have eo : ords (hI τ 79) N = ords (hI ν 79) N := ords_ag (fun k a b => (lv k a b).trans (o3 k a b).symm)
  have enn : nnR (bkH τ) = nnR ν := by unfold nnR; rw [mD 71 (by decide)]
  have p1 : ptD (bkH τ) N = ptD ν N := by
    unfold ptD
    rw [mI 70 (by decide), mD 71 (by decide), mI 72 (by decide), mI 73 (by decide), mD 76 (by decide), mD 77 (by decide), mI 75 (by decide), enn, e79, eo, e69 13 (by decide) (by decide)]
  have p2 : ptF (bkH τ) N = ptF ν N := by
    unfold ptF
    rw [mI 70 (by decide), mD 71 (by decide), mI 72 (by decide), mI 73 (by decide), mD 76 (by decide), mD 77 (by decide), mI 75 (by decide), enn, e79, eo, e69 13 (by decide) (by decide)]
  have tD : TAg (ptD ν N) (tsD ν) (tsD (bkH τ)) := by
    refine ⟨fun k a b => ?_, fun k a b => ?_, fun k a b => ?_, fun k a b _ => ?_⟩
    · have b : k < N := b
      exact (r1 k a (by omega)).2.2.1.symm
    · have b : k < N := b
      exact (r1 k a (by omega)).1.symm
    · have b : k < ((16 * N : Nat) : Int) := b
      exact (r2 k a (by omega)).1.symm
    · have b : k < N := b
      exact (r1 k a (by omega)).2.2.2.2.1.symm
  have tF : TAg (ptF ν N) (tsF ν) (tsF (bkH τ)) := by
    refine ⟨fun k a b => ?_, fun k a b => ?_, fun k a b => ?_, fun k a b _ => ?_⟩
    · have b : k < N := b
      exact (r1 k a (by omega)).2.2.2.1.symm
    · have b : k < N := b
      exact (r1 k a (by omega)).2.1.symm
    · have b : k < ((16 * N : Nat) : Int) := b
      exact (r2 k a (by omega)).2.symm
    · have b : k < N := b
      exact (r1 k a (by omega)).2.2.2.2.1.symm
  refine ⟨?_, ?_, ?_, ⟨fun k x y => ?_, fun k x y => ?_, ?_⟩, ?_, ?_, ⟨⟨fun k x y => ?_, fun k x y => ?_⟩, z, zt, ?_, fun q => ?_, fun k x y => ?_⟩, fun _ => ⟨?_, ?_, ?_, ?_, ?_, fun m x y => ?_, fun m x y => ?_, fun m x y => ?_⟩⟩
  · unfold RlA
    rw [cI 3 (by decide), cI 0 (by decide), cI 47 (by decide), cI 51 (by decide), cI 21 (by decide), cI 34 (by decide), cI 56 (by decide), e69 0 (by decide) (by decide), e69 37 (by decide) (by decide), e69 11 (by decide) (by decide), e69 12 (by decide) (by decide), e69 16 (by decide) (by decide), e69 15 (by decide) (by decide), e69 13 (by decide) (by decide), e69 14 (by decide) (by decide), e69 41 (by decide) (by decide)]
    exact hA
  · unfold RlB
    rw [cI 4 (by decide), cL 5 (by decide), cD 6 (by decide), cL 7 (by decide), cD 8 (by decide), cI 9 (by decide), cI 10 (by decide), cI 11 (by decide), cD 12 (by decide), cD 13 (by decide), cI 14 (by decide), mI 70 (by decide), mD 71 (by decide), mI 72 (by decide), mI 73 (by decide), mD 74 (by decide), mI 75 (by decide), mD 76 (by decide), mD 77 (by decide), mI 78 (by decide)]
    exact hB
  · unfold RlP
    rw [mI 70 (by decide), mD 71 (by decide), mI 72 (by decide), mI 73 (by decide), mD 74 (by decide), mI 75 (by decide), mD 76 (by decide), mD 77 (by decide), mI 78 (by decide)]
    exact hP
  · rw [cI 20 (by decide), (r1 k x y).2.2.2.2.2.1]; exact hLa.1 k x y
  · rw [(r1 k (by omega) y).2.2.2.2.2.1]; exact hLa.2.1 k x y
  · unfold L20
    rw [cI 55 (by decide), cI 54 (by decide)]; exact hLa.2.2
  · unfold RlS
    rw [cI 48 (by decide), cI 49 (by decide), cL 50 (by decide), mI 100 (by decide), mI 101 (by decide), mD 102 (by decide)]
    exact hS
  · unfold RlW
    rw [e69 41 (by decide) (by decide), cD 52 (by decide), mD 103 (by decide)]
    exact hW
  · rw [(r1 k x y).1, (r1 k x y).2.1, (r1 k x y).2.2.1, (r1 k x y).2.2.2.1]; exact m1.1 k x y
  · rw [(r2 k x y).1, (r2 k x y).2]; exact m1.2 k x y
  · exact G.k20 (by decide) m4
  · rw [cI 3 (by decide)] at q
    unfold LevR OrdC
    rw [cI 16 (by decide), cI 4 (by decide), cI 18 (by decide), cI 15 (by decide), cI 17 (by decide), mI 72 (by decide)]
    exact m5 q
  · rw [(r1 k x y).2.2.2.2.2.2.1, (r1 k x y).2.2.2.2.2.2.2]; exact m6 k x y
  · rw [cI 3 (by decide)]; exact o1
  · rw [mI 70 (by decide), mI 72 (by decide), mI 75 (by decide)]; exact o2
  · rw [mI 70 (by decide), mI 72 (by decide)]; exact lv
  · obtain ⟨⟨w1, w2, w3, w4, w5, w6, w7⟩, w8, w9⟩ := w
    refine ⟨⟨?_, w2, fun m x y => ?_, w4, ?_, fun k x y => ?_, fun k x y => ?_⟩, fun k x y => ?_, w9⟩
    · rw [e69 0 (by decide) (by decide)]; exact hA.1.2.1
    · obtain ⟨g1, g2, g3, g4, g5, g6, g7, g8⟩ := w3 m x y
      refine ⟨g1, g2, g3, g4, g5, g6, g7, ?_⟩
      rw [(r1 m x (by omega)).2.2.2.2.2.1]; exact (hLa.1 m x (by omega)).2
    · rw [ebk, fup_n (by decide)]; exact w5
    · rw [(r1 k x y).1, (r1 k x y).2.1]; exact ⟨(m1.1 k x y).2.2.1, (m1.1 k x y).2.2.2⟩
    · rw [(r2 k x y).1, (r2 k x y).2]; exact m1.2 k x y
    · show mg (hD (bkH τ) 82 k) 1024 ∧ mf (hF (bkH τ) 83 k) 128
      rw [(r1 k x y).2.2.1, (r1 k x y).2.2.2.1]; exact ⟨(m1.1 k x y).1, (m1.1 k x y).2.1⟩
  · rw [p1, p2, enn, mI 72 (by decide), mD 71 (by decide), e79, eo]
    exact tws_ag (tws_cl o5 ec) tD tF
  · rw [cD 2 (by decide), (r1 m x (by omega)).2.2.2.2.2.2.1]; exact o6 m x y
  · rw [cL 1 (by decide), mI 70 (by decide), (r1 m x (by omega)).2.2.2.2.2.2.2]; exact o7 m x y
  · rw [(r1 m x (by omega)).2.2.1, (r1 m x (by omega)).2.2.2.1]; exact o8 m x y
end RBL
