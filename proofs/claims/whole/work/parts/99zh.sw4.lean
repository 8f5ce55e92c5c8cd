/-! ===== sweep: the values of both ===== -/
section RSD
variable {σ τ ν χ : Hp} {N S : Nat}
/-- what one trial of a sweep gives -/
def swV (σ : Hp) (N k : Nat) (m q : Int) (n : Nat) (v : UInt64) : UInt64 := (gsn arD zcD (StP (swX σ m v) N) (lenD k) (lenD (k + 1)) (gT0 (hD σ 74) (fup (hD σ 71) m v) (StP (swX σ m v) N) (fun _ => 0)) n).1 q
theorem sw_val {k n : Nat} {m q : Int} {v : UInt64} (h : RlN σ N S) (hk : (chk (hI σ 70) (hI σ 72) (hI σ 75) N).1 = 0) (hv : vf_n64 v) (hs : isSet (hI σ 70 m) v = true) (hq : 0 ≤ q ∧ q < N) (e0 : hI χ 70 = hI σ 70) (e1 : hD χ 71 = fup (hD σ 71) m v) (e2 : hI χ 72 = hI σ 72) (e3 : hI χ 73 = hI σ 73) (e4 : hD χ 74 = hD σ 74) (e5 : hI χ 75 = hI σ 75) (e6 : hD χ 76 = hD σ 76) (e7 : hD χ 77 = hD σ 77) (e13 : hI χ 69 13 = hI σ 69 13) : hD (trH χ N n (lenD k)) 82 q = swV σ N k m q n v := by
  have w := wo_sw (m := m) h hk hv hs
  have enn : nnR χ = nnR (swX σ m v) := by unfold nnR; rw [e1]; rfl
  have eo : ords (lvs (hI σ 70) (hI σ 72) (hI χ 79) N) N = ords (lvC (hI σ 70) (hI σ 72) N) N := ords_ag (lvs_ag h.2.2.1.2.2.1)
  have eP : ptD (begH χ N) N = StP (swX σ m v) N := by
    rw [beg_pD, e0, e1, e2, e3, e5, e6, e7, enn, e13, eo]; rfl
  have tv := tr_val (χ := χ) (r := fun _ => 0) (n := n) (t := lenD k) (by rw [eP]; exact w) hq
  rw [eP, e4, e1] at tv
  exact tv.symm
theorem cl_val {k n : Nat} {m q : Int} {v : UInt64} {r : Int → UInt64} (h : RlN σ N S) (hk : (chk (hI σ 70) (hI σ 72) (hI σ 75) N).1 = 0) (hv : vf_n64 v) (hs : isSet (hI σ 70 m) v = true) (hq : 0 ≤ q ∧ q < N) : (gsn arD zcD (StP (swX σ m v) N) (lenD k) (lenD (k + 1)) (gT0 (hD σ 74) (fup (hD σ 71) m v) (StP (swX σ m v) N) r) n).1 q = swV σ N k m q n v := by
  have w := wo_sw (m := m) h hk hv hs
  exact (gsn_ag (A := arD) (z := zcD) (h := lenD k) (h2 := lenD (k + 1)) w (gT0_ag (b := hD σ 74) (s := fup (hD σ 71) m v) (r := r) (r' := fun _ => 0) w) n).1 q hq.1 hq.2
theorem swV_nz {k n : Nat} {m q : Int} {v : UInt64} (h : RlN σ N S) (hk : (chk (hI σ 70) (hI σ 72) (hI σ 75) N).1 = 0) (hv : vf_n64 v) (hs : isSet (hI σ 70 m) v = true) (hq : 0 ≤ q ∧ q < N) (hn : 1 ≤ n) : swV σ N k m q n v ≠ 9223372036854775808 := by
  have w := wo_sw (m := m) h hk hv hs
  obtain ⟨i, hi⟩ : ∃ i : Nat, n = i + 1 := ⟨n - 1, by omega⟩
  subst hi
  unfold swV
  exact gstep_nzD (w.2.2.2.1 q hq.1 hq.2)
theorem fq_oD {L : List Nat} {a b : Hp} {c : Nat} {g : Int → UInt64} (h : Fq L a b) (hc : ¬ c = 22 ∧ ¬ c = 35 ∧ ¬ c = 57) : Fq L (wD a c g) (wD b c g) := ⟨fun x hx => by
  obtain ⟨a1, a2, a3, a4⟩ := h.1 x hx
  refine ⟨a1, a2, a3, ?_⟩
  rw [hD_wD, hD_wD, a4], fun z k k0 k1 => by
  have q := h.2 (fun k k0 k1 => by
    have z := z k k0 k1
    rw [hD_wD, if_neg (fun q => hc.1 q.symm), hD_wD, if_neg (fun q => hc.2.1 q.symm), hD_wD, if_neg (fun q => hc.2.2 q.symm)] at z
    exact z) k k0 k1
  rw [hD_wD, if_neg (fun q => hc.1 q.symm), hD_wD, if_neg (fun q => hc.2.1 q.symm), hD_wD, if_neg (fun q => hc.2.2 q.symm)]
  exact q⟩
theorem fq_oI {L : List Nat} {a b : Hp} {c : Nat} {g : Int → Int} (h : Fq L a b) : Fq L (wI a c g) (wI b c g) := ⟨fun x hx => by
  obtain ⟨a1, a2, a3, a4⟩ := h.1 x hx
  refine ⟨?_, a2, a3, a4⟩
  rw [hI_wI, hI_wI, a1], fun z => h.2 z⟩
/-- behind j trials of the class's sweep -/
abbrev SwI (σ : Hp) (N k : Nat) (m q c : Int) (x y : UInt64) (n j : Nat) (τ : Hp) : Prop := Fq TrC (wD (wI σ 51 (fup (hI σ 51) 3 c)) 52 (hD τ 52)) τ ∧ L20 τ ∧ ∀ i : Nat, i < j → hD τ 52 i = swV σ N k m q n (swv x y i) ∧ mg (hD τ 52 i) 1024 ∧ hD τ 52 i ≠ 9223372036854775808
theorem sw_cl {k n j : Nat} {m q c : Int} {x y : UInt64} (h : RlN σ N S) (h3 : hI σ 3 3 = 0) (hk : (chk (hI σ 70) (hI σ 72) (hI σ 75) N).1 = 0) (hkk : hI σ 69 14 = k) (hm : inR m) (hv : vf_n64 (swv x y j)) (hs : isSet (hI σ 70 m) (swv x y j) = true) (hq : 0 ≤ q ∧ q < N) (hn : 1 ≤ n ∧ n ≤ 40) (I : SwI σ N k m q c x y n j τ) {Q' : Option PV → Hp → Prop} (hQ : ∀ v ν, SwI σ N k m q c x y n (j + 1) (wD ν 52 (fup (hD ν 52) j v)) → Q' (some (vD v)) ν) : Sp mR_readingBehind [vR 51, vI m, vD (swv x y j), vI n, vI q] τ Q' := by
  obtain ⟨F, l, w⟩ := I
  have sv := sv_fup (m := m) (v := swv x y j) h
  have hA := h.1
  have hP := h.2.2.1
  have kb := hA.2.2.2.2.2.2.1
  have hM := h.2.2.2.2.2.2.1
  have n20 := hA.1.2.2
  have tri0 := tri_of (c := m) (v := swv x y j) h h3 hk hm (fun m' a b => by
    rw [sv]
    by_cases e : m' = m
    · rw [e, fup_s]; exact ⟨hv, hs⟩
    · rw [fup_n e]; exact (hP.1 m' a b).2)
  have tri := Tri.fr (σ := wD (wI σ 51 (fup (hI σ 51) 3 c)) 52 (hD τ 52)) tri0 F (by decide)
  have k20 : K20 τ := F.2 hM.2.2.2.1
  have i3 : hI τ 3 = hI σ 3 := F.I (by decide)
  have eP0 : Pct τ (hI σ 72) (svC τ m (swv x y j)) (fun m_1 => (FP.d2i (svC σ m (swv x y j) m_1)).toInt) (ords (lvC (hI σ 70) (hI σ 72) N) N) N = StP (swX σ m (swv x y j)) N := by
    have e1 : svC τ m (swv x y j) = svC σ m (swv x y j) := by
      unfold svC
      rw [F.D (c := 6) (by decide)]; rfl
    rw [e1]
    have e2 : Pct τ (hI σ 72) (svC σ m (swv x y j)) (fun m_1 => (FP.d2i (svC σ m (swv x y j) m_1)).toInt) (ords (lvC (hI σ 70) (hI σ 72) N) N) N = Pct σ (hI σ 72) (svC σ m (swv x y j)) (fun m_1 => (FP.d2i (svC σ m (swv x y j) m_1)).toInt) (ords (lvC (hI σ 70) (hI σ 72) N) N) N := by
      unfold Pct
      rw [F.I (c := 4) (by decide), F.I (c := 10) (by decide), F.D (c := 12) (by decide), F.D (c := 13) (by decide), F.I (c := 11) (by decide), i3]; rfl
    rw [e2, pc_st h, sv]; rfl
  have e1 : svC τ m (swv x y j) = fup (hD σ 71) m (swv x y j) := by
    rw [← sv]
    unfold svC
    rw [F.D (c := 6) (by decide)]; rfl
  have e8 : hD τ 8 = hD σ 74 := by
    rw [← h.2.1.2.2.2.2.1]
    exact F.D (by decide)
  refine cR_readingBehind (r := hD τ 57) (k := k) (n := n) tri l (fun i a b => ⟨rfl, (k20 i a (by omega)).2.2⟩) ⟨by rw [i3, kb.1]; exact hkk, by omega, by omega⟩ (by rw [i3, hA.2.2.2.2.2.1.1]; exact hA.2.2.2.2.2.1.2) hq (by omega) (fun P T eP eT ν F2 r3 l2 => ?_)
  rw [eP0] at eP
  rw [eP, e8, e1] at eT
  have val : T.1 q = swV σ N k m q n (swv x y j) := by
    rw [eT]
    exact cl_val h hk hv hs hq
  have bd := (r3 q hq.1 hq.2).2
  have nz := swV_nz (k := k) (n := n) (m := m) h hk hv hs hq hn.1
  refine hQ _ ν ⟨?_, l2, fun i hi => ?_⟩
  · have G : Fq TrC (wD (wI σ 51 (fup (hI σ 51) 3 c)) 52 (hD τ 52)) ν := F.trans F2
    have G2 := fq_oD (c := 52) (g := fup (hD ν 52) j (T.1 q)) G (by decide)
    rw [wD_wD] at G2
    exact G2
  · have e52 : hD ν 52 = hD τ 52 := F2.D (by decide)
    show fup (hD ν 52) j (T.1 q) i = _ ∧ mg (fup (hD ν 52) j (T.1 q) i) 1024 ∧ fup (hD ν 52) j (T.1 q) i ≠ _
    by_cases e : i = j
    · subst e
      rw [fup_s, val]
      rw [val] at bd
      exact ⟨rfl, bd, nz⟩
    · rw [fup_n (by omega), e52]
      exact w i (by omega)
end RSD
