/-! ===== class and reference: halved, whole ===== -/
section RHY
variable {σ ν χ : Hp} {N S : Nat}
theorem tr_79 {n : Nat} {t : UInt64} : hI (trH χ N n t) 79 = lvs (hI χ 70) (hI χ 72) (hI χ 79) N := by
  unfold trH
  rw [(fo_it n).I (by decide)]
  rfl
theorem pc_st {nn : Int → Int} {se : Int → UInt64} (h : RlN σ N S) : Pct σ (hI σ 72) se nn (ords (lvC (hI σ 70) (hI σ 72) N) N) N = (hI σ 70, se, hI σ 72, hI σ 73, hD σ 76, hD σ 77, hI σ 75, nn, ords (lvC (hI σ 70) (hI σ 72) N) N, N, hI σ 69 13) := by
  obtain ⟨hA, ⟨b1, b2, b3, b4, b5, b6, b7, b8, b9, b10, b11⟩, _⟩ := h
  unfold Pct
  rw [b1, b7, b8, b9, b10, hA.2.2.2.2.2.1.1]
theorem pr_halved {q n : Int} (h : Rel σ) (hq : inR q) (hn : inR n) : PrL mX_halved mM_halved [vI q, vI n] σ := by
  have h0 := h
  obtain ⟨N, S, hN⟩ := h0
  have hA := hN.1
  have kb := hA.2.2.2.2.2.2.1
  obtain ⟨k, hk⟩ : ∃ k : Nat, hI σ 69 14 = k := ⟨(hI σ 69 14).toNat, by omega⟩
  refine cX_halved hA.sz hq hn (fun g => ⟨_, rfl, cM_halved (N := N) (k := k) hA.sc hq hn ⟨by omega, by omega⟩ hA.1.2.1 (fun _ => ⟨rfl, h⟩) (fun a b c => absurd ⟨⟨fun z => c (hA.o.mp z), hA.m.mpr a⟩, b⟩ g)⟩) (fun g1 g2 g3 Q' hQ' => ?_)
  have o : ¬ hI σ 69 11 = 0 := fun z => g1 (hA.o.mpr z)
  obtain ⟨o1, o2, o3, o4, o5, o6, o7, o8⟩ := hN.2.2.2.2.2.2.2 o
  have hP := hN.2.2.1
  have hM := hN.2.2.2.2.2.2.1
  have n20 := hA.1.2.2
  have qn := hA.n g2
  have sv := sv_1 hN
  obtain ⟨w1, _⟩ := st_wo hN o2
  obtain ⟨j, hj⟩ : ∃ j : Nat, n = j := ⟨n.toNat, by omega⟩
  subst hj
  have tri := tri_of (c := -1) (v := FP.dconst0) hN o1 o2 (by constructor <;> decide) (fun m x y => by rw [sv]; exact (hP.1 m x y).2)
  refine cR_greatestGap (r := hD σ 57) (k := k) (n := j) tri hN.2.2.2.1.2.2 (fun i x y => ⟨rfl, (hM.2.2.2.1 i x (by omega)).2.2⟩) ⟨by rw [hA.2.2.2.2.2.2.1.1]; exact hk, by omega, by omega⟩ (by rw [hA.2.2.2.2.2.1.1]; exact hA.2.2.2.2.2.1.2) qn (by omega) (fun P r2 W H eP eW eH bd ν r3 F _ l => ?_)
  have gb := ggp_nn j bd
  refine hQ' _ ν (by omega) (by omega) ⟨_, rfl, ?_⟩
  have hT := Rel_tr hN F l
  have hA2 := hT.1
  have em := mdl_eq F.1 (by decide)
  obtain ⟨rI, rF, rD⟩ := row_md em
  have oν : ¬ hI ν 69 11 = 0 := by rw [rI 69 (by decide)]; exact o
  have kν : hI ν 69 14 = k := by rw [rI 69 (by decide)]; exact hk
  have cν : (chk (hI ν 70) (hI ν 72) (hI ν 75) N).1 = 0 := by rw [rI 70 (by decide), rI 72 (by decide), rI 75 (by decide)]; exact o2
  have mν : isM ν q := by
    unfold isM
    rw [rI 69 (by decide)]
    exact hA.m.mp g2
  have P1 : P = StP σ N := by
    rw [eP, pc_st hN, sv]; rfl
  have e8 : hD σ 8 = hD σ 74 := hN.2.1.2.2.2.2.1
  rw [P1, sv, e8] at eW eH
  refine cM_halved (N := N) (k := k) hA2.sc hq hn ⟨by omega, by omega⟩ hA2.1.2.1 (fun z => absurd ⟨mν, g3, oν⟩ z) (fun a b c => ⟨⟨RlN.wp hT cν, hT.2.2.2.2.2.2.1.1, hT.2.2.2.2.2.2.1.2.1, hA2.2.2.2.2.2.1.2, kν⟩, fun bw ti ws => ⟨?_, N, S, ?_⟩⟩)
  · rw [Int.toNat_natCast]
    have fq : FqO (TrC2 ++ KbC) σ (kpH ν) := (F.1.weak (by decide)).trans (fo_kp.weak (by decide))
    have val : ∀ (χ : Hp) (m : Nat) (t : UInt64) (r : Int → UInt64), FqO (TrC2 ++ KbC) σ χ → hI χ 69 13 = hI σ 69 13 → (gsn arD zcD (StP σ N) t (FP.ddiv t 4611686018427387904) (gT0 (hD σ 74) (hD σ 71) (StP σ N) r) m).1 q = hD (trH χ N m t) 82 q := fun χ m t r G e13 => by
      obtain ⟨b1, b2, b3⟩ := beg_st hN G (by decide) e13
      have tv := tr_val (χ := χ) (r := r) (n := m) (t := t) (by rw [b1]; exact w1) qn
      rw [b1, b2, b3] at tv
      exact tv
    have k13 : hI (kpH ν) 69 13 = hI σ 69 13 := by
      show fup (hI ν 69) 58 (hI ν 69 12) 13 = _
      rw [fup_n (by decide), rI 69 (by decide)]
    have hvf : ∀ i : Nat, FqO (TrC2 ++ KbC) σ (hvH (kpH ν) N k i) ∧ hI (hvH (kpH ν) N k i) 69 13 = hI σ 69 13 := fun i => ⟨fq.trans ((fo_hv i).weak (by decide)), by rw [hv_69 (by decide) (by decide), k13]⟩
    rw [ggp_cg (W := W) (H := H) (W' := hvW (kpH ν) N k q) (H' := hvV (kpH ν) N k q) j (fun i hi => ⟨?_, ?_⟩)]
    · rw [eW]
      exact val _ (i + 1) (lenD k) _ (hvf i).1 (hvf i).2
    · rw [eH]
      have fx : FqO (TrC2 ++ KbC) σ (trH (hvH (kpH ν) N k i) N (i + 1) (lenD k)) := (hvf i).1.trans (fo_tr.weak (by decide))
      have ex : hI (trH (hvH (kpH ν) N k i) N (i + 1) (lenD k)) 69 13 = hI σ 69 13 := by rw [tr_69 (by decide) (by decide)]; exact (hvf i).2
      exact val _ (2 * (i + 1)) (lenD (k + 1)) _ fx ex
  · rw [Int.toNat_natCast] at ti ws ⊢
    obtain ⟨i, hi⟩ : ∃ i : Nat, j = i + 1 := ⟨j - 1, by omega⟩
    have G := fo_hv (σ := kpH ν) (N := N) (k := k) j
    have lv : Ag (hI (hvH (kpH ν) N k j) 79) (lvC (hI ν 70) (hI ν 72) N) N := by
      rw [hi]
      have e : hvH (kpH ν) N k (i + 1) = trH (trH (hvH (kpH ν) N k i) N (i + 1) (lenD k)) N (2 * (i + 1)) (lenD (k + 1)) := rfl
      have G2 : FqO (TrC2 ++ KbC) ν (trH (hvH (kpH ν) N k i) N (i + 1) (lenD k)) := ((fo_kp.weak (by decide)).trans ((fo_hv i).weak (by decide))).trans (fo_tr.weak (by decide))
      rw [e, tr_79, G2.I (c := 70) (by decide), G2.I (c := 72) (by decide)]
      exact lvs_ag hT.2.2.1.2.2.1
    have zk : Zt (kpH ν) N := hT.2.2.2.2.2.2.1.2.2.1
    exact Rel_back hT oν G ws ti.2.2.1 (hv_zt zk j) lv (fun x a b => hv_69 a b j)
end RHY
