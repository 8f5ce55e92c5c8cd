/-! ===== class and reference: sweep ===== -/
section RSF
variable {σ τ : Hp} {N S : Nat}
theorem sw_103 {ω : Hp} {k n : Nat} {m q : Int} {x y : UInt64} : ∀ j i : Nat, i < j → hD (swS ω N k m q x y n j) 103 i = hD (trH (swX (swS ω N k m q x y n i) m (swv x y i)) N n (lenD k)) 82 q
  | 0, i, h => absurd h (by omega)
  | j + 1, i, h => by
    show fup (hD (trH (swX (swS ω N k m q x y n j) m (swv x y j)) N n (lenD k)) 103) j (hD (trH (swX (swS ω N k m q x y n j) m (swv x y j)) N n (lenD k)) 82 q) i = _
    by_cases e : i = j
    · subst e; rw [fup_s]
    · rw [fup_n (by omega), fo_tr.D (c := 103) (by decide)]
      exact sw_103 j i (by omega)
theorem sw_T {k n : Nat} {m q c : Int} {x y : UInt64} {j : Nat} (h : RlN σ N S) (hk : (chk (hI σ 70) (hI σ 72) (hI σ 75) N).1 = 0) (F : Fq TrC (wD (wI σ 51 (fup (hI σ 51) 3 c)) 52 (hD τ 52)) τ) (hv : vf_n64 (swv x y j)) (hs : isSet (hI σ 70 m) (swv x y j) = true) (hq : 0 ≤ q ∧ q < N) {J : Nat} (hj : j < J) : hD (swS (swK τ m) N k m q x y n J) 103 j = swV σ N k m q n (swv x y j) := by
  rw [sw_103 J j hj]
  have G : FqO (103 :: 71 :: TrR) (kpH τ) (swS (swK τ m) N k m q x y n j) := fo_sw _
  refine sw_val h hk hv hs hq ?_ ?_ ?_ ?_ ?_ ?_ ?_ ?_ ?_
  · exact (G.I (c := 70) (by decide)).trans (F.I (c := 70) (by decide))
  · show fup (hD (swS (swK τ m) N k m q x y n j) 71) m (swv x y j) = _
    rw [sw_71]
    show fup (hD τ 71) m (swv x y j) = _
    rw [F.D (c := 71) (by decide)]; rfl
  · exact (G.I (c := 72) (by decide)).trans (F.I (c := 72) (by decide))
  · exact (G.I (c := 73) (by decide)).trans (F.I (c := 73) (by decide))
  · exact (G.D (c := 74) (by decide)).trans (F.D (c := 74) (by decide))
  · exact (G.I (c := 75) (by decide)).trans (F.I (c := 75) (by decide))
  · exact (G.D (c := 76) (by decide)).trans (F.D (c := 76) (by decide))
  · exact (G.D (c := 77) (by decide)).trans (F.D (c := 77) (by decide))
  · show hI (swS (swK τ m) N k m q x y n j) 69 13 = _
    rw [sw_69 (by decide) (by decide)]
    show hI τ 69 13 = _
    rw [F.I (c := 69) (by decide)]; rfl
theorem pr_sweep {m c n q : Int} {x y : Int64} (h : Rel σ) (hm : inR m) (hc : inR c) (hn : inR n) (hq : inR q) : PrI mX_sweep mM_sweep [vI m, vL x, vL y, vI c, vI n, vI q] σ := by
  have h0 := h
  obtain ⟨N, S, hN⟩ := h0
  have hA := hN.1
  have kb := hA.2.2.2.2.2.2.1
  obtain ⟨k, hk⟩ : ∃ k : Nat, hI σ 69 14 = k := ⟨(hI σ 69 14).toNat, by omega⟩
  have b1 : hI σ 4 = hI σ 70 := hN.2.1.1
  have kd := RlN.kd hN
  have kdM : isM σ m → inR (hI σ 70 m) := fun g => by
    have g2 := hA.n (hA.m.mpr g)
    exact kd m g2.1 g2.2
  have cnd : ∀ kd : Int, (((1 ≤ c ∧ c ≤ 6) ∧ 1 ≤ n ∧ n ≤ 40) ∧ finL x ∧ finL y ∧ ∀ j : Nat, (j : Int) < c → isSet kd (swv (dec x) (dec y) j) = true) ↔ SwC kd x y c n := fun kd => ⟨fun ⟨a, f1, f2, s⟩ => ⟨a, f1, f2, by rw [finL_dec f1, finL_dec f2] at s; exact s⟩, fun ⟨a, f1, f2, s⟩ => ⟨a, f1, f2, by rw [finL_dec f1, finL_dec f2]; exact s⟩⟩
  refine cX_sweep (Inv := SwI σ N k m q c x.toUInt64 y.toUInt64 n.toNat) hA.sz hm hq hn hc (fun m' g => by
      rw [b1]
      have g2 := hA.n g
      exact kd m' g2.1 g2.2) (fun g => ⟨_, rfl, cM_sweep (N := N) (k := k) hA.sc hm hq hn hc ⟨by omega, by omega⟩ hA.1.2.1 kdM (fun _ => ⟨rfl, h⟩) (fun a b => absurd ⟨hA.m.mpr a, hA.m.mpr b⟩ g) (fun a b => absurd ⟨hA.m.mpr a, hA.m.mpr b⟩ g) (fun a b => absurd ⟨hA.m.mpr a, hA.m.mpr b⟩ g)⟩) (fun g1 g2 g => ?_) (fun g1 g2 g g4 => ?_) (fun g1 g2 g g4 => ?_)
  · rw [b1, cnd] at g
    exact ⟨_, rfl, cM_sweep (N := N) (k := k) hA.sc hm hq hn hc ⟨by omega, by omega⟩ hA.1.2.1 kdM (fun z => absurd ⟨hA.m.mp g1, hA.m.mp g2⟩ z) (fun _ _ _ => ⟨rfl, h⟩) (fun _ _ z => absurd z g) (fun _ _ z => absurd z g)⟩
  · rw [b1, cnd] at g
    exact ⟨_, rfl, cM_sweep (N := N) (k := k) hA.sc hm hq hn hc ⟨by omega, by omega⟩ hA.1.2.1 kdM (fun z => absurd ⟨hA.m.mp g1, hA.m.mp g2⟩ z) (fun _ _ z => absurd g z) (fun _ _ _ _ => ⟨rfl, h⟩) (fun _ _ _ z => absurd (hA.o.mp g4) z)⟩
  · rw [b1, cnd] at g
    obtain ⟨⟨c1, c2⟩, c3, c4, c5⟩ := g
    have o : ¬ hI σ 69 11 = 0 := fun z => g4 (hA.o.mpr z)
    obtain ⟨o1, o2, _⟩ := hN.2.2.2.2.2.2.2 o
    have qn := hA.n g2
    obtain ⟨nq, hnq⟩ : ∃ j : Nat, n = j := ⟨n.toNat, by omega⟩
    subst hnq
    obtain ⟨cq, hcq⟩ : ∃ j : Nat, c = j := ⟨c.toNat, by omega⟩
    subst hcq
    rw [Int.toNat_natCast, Int.toNat_natCast, finL_dec c3, finL_dec c4]
    have nv : ∀ i : Nat, i < 7 → vf_n64 (swv x.toUInt64 y.toUInt64 i) := fun i hi => by
      have h := sw_add c3 c4 (j := i) hi
      rw [finL_dec c3, finL_dec c4] at h
      exact h
    refine ⟨⟨?_, hN.2.2.2.1.2.2, fun i hi => absurd hi (by omega)⟩, fun j τ hj I Q' hQ' => sw_cl hN o1 o2 hk hm (nv j (by omega)) (c5 j hj) qn (by omega) I hQ', fun τ I => ⟨_, rfl, ?_⟩⟩
    · rw [show hD (wI σ 51 (fup (hI σ 51) 3 cq)) 52 = hD (wI σ 51 (fup (hI σ 51) 3 cq)) 52 from rfl, wD_id]
      exact Fq.rf
    · obtain ⟨F, l, w⟩ := I
      have hw : ∀ j : Int, 0 ≤ j → j < (cq : Int) → hD τ 52 j = hD (swS (swK τ m) N k m q x.toUInt64 y.toUInt64 nq cq) 103 j ∧ mg (hD (swS (swK τ m) N k m q x.toUInt64 y.toUInt64 nq cq) 103 j) 1024 ∧ hD (swS (swK τ m) N k m q x.toUInt64 y.toUInt64 nq cq) 103 j ≠ 9223372036854775808 := fun j a b => by
        obtain ⟨i, hi⟩ : ∃ i : Nat, j = i := ⟨j.toNat, by omega⟩
        subst hi
        have hT := sw_T (k := k) (n := nq) (J := cq) hN o2 F (nv i (by omega)) (c5 i b) qn (by omega)
        obtain ⟨w1, w2, w3⟩ := w i (by omega)
        rw [hT]
        rw [w1] at w2 w3 ⊢
        exact ⟨rfl, w2, w3⟩
      have hT := sw_rel hN (by omega) F l hw
      have i69 : hI τ 69 = hI σ 69 := F.I (by decide)
      have o' : ¬ hI τ 69 11 = 0 := by rw [i69]; exact o
      have e0 : hI τ 70 = hI σ 70 := F.I (by decide)
      have e2 : hI τ 72 = hI σ 72 := F.I (by decide)
      have e5 : hI τ 75 = hI σ 75 := F.I (by decide)
      have sc : Sc τ := by
        have s := hA.sc
        unfold Sc at s ⊢
        rw [i69]
        obtain ⟨s1, s2, s3, s4⟩ := s
        exact ⟨s1, s2, s3, s4⟩
      have im : ∀ i : Int, isM σ i → isM τ i := fun i z => by unfold isM; rw [i69]; exact z
      have c' : SwC (hI τ 70 m) x y cq nq := by rw [e0]; exact ⟨⟨c1, c2⟩, c3, c4, c5⟩
      have ck : (chk (hI τ 70) (hI τ 72) (hI τ 75) N).1 = 0 := by rw [e0, e2, e5]; exact o2
      have wp0 := RlN.wp hT ck
      have wp : WP τ N := wp0
      refine cM_sweep (N := N) (k := k) sc hm hq hn hc ⟨by omega, by omega⟩ (by rw [i69]; exact hA.1.2.1) (fun _ => by rw [e0]; exact kdM (hA.m.mp g1)) (fun z => absurd ⟨im _ (hA.m.mp g1), im _ (hA.m.mp g2)⟩ z) (fun _ _ z => absurd c' z) (fun _ _ _ z => absurd z o') (fun _ _ _ _ => ⟨⟨wp, hT.2.2.2.2.2.2.1.1, hT.2.2.2.2.2.2.1.2.1, by rw [i69]; exact hA.2.2.2.2.2.1.2, by rw [i69]; exact hk⟩, fun ti ws _ => ⟨rfl, N, S, ?_⟩⟩)
      rw [Int.toNat_natCast, Int.toNat_natCast] at ti ws ⊢
      obtain ⟨i, hi⟩ : ∃ i : Nat, cq = i + 1 := ⟨cq - 1, by omega⟩
      subst hi
      exact sw_fin rfl hT o' ws ti.2.2.1
end RSF
