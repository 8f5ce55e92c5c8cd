/-! ===== sweep: behind both ===== -/
section RSE
variable {σ τ : Hp} {N S : Nat}
theorem sw_rel {c : Int} {g : Int → UInt64} (h : RlN σ N S) (hc : 0 ≤ c ∧ c ≤ 6) (F : Fq TrC (wD (wI σ 51 (fup (hI σ 51) 3 c)) 52 (hD τ 52)) τ) (l : L20 τ) (hw : ∀ j : Int, 0 ≤ j → j < c → hD τ 52 j = g j ∧ mg (g j) 1024 ∧ g j ≠ 9223372036854775808) : RlN (wD (wI τ 69 (fup (hI τ 69) 41 c)) 103 g) N S := by
  obtain ⟨hA, hB, hP, hLa, hS, hW, hM, hO⟩ := h
  have h' : RlN (wD (wI (wD (wI σ 51 (fup (hI σ 51) 3 c)) 52 (hD τ 52)) 69 (fup (hI σ 69) 41 c)) 103 g) N S := by
    refine ⟨?_, hB, hP, hLa, hS, ?_, hM, hO⟩
    · obtain ⟨a1, a2, a3, a4, a5, a6, a7, a8, a9⟩ := hA
      exact ⟨a1, a2, a3, a4, a5, a6, a7, ⟨rfl, hc.1, hc.2⟩, a9⟩
    · exact hw
  have e : hI τ 69 = hI σ 69 := F.I (by decide)
  rw [e]
  exact Rel_tr h' ((fq_oD (c := 103) (g := g) (fq_oI (c := 69) (g := fup (hI σ 69) 41 c) F) (by decide)).weak (by decide)) l
theorem bk_41 {c : Int} (H : Hp) : wI (bkH H) 69 (fup (hI (bkH H) 69) 41 c) = bkH (wI H 69 (fup (hI H 69) 41 c)) := by
  refine hp_ext (fun x => ?_) (fun x => rfl) (fun x => rfl) (fun x => rfl)
  have e1 : hI (bkH H) 69 = fup (hI H 69) 12 (hI H 69 58) := rfl
  have e2 : hI (bkH (wI H 69 (fup (hI H 69) 41 c))) 69 = fup (fup (hI H 69) 41 c) 12 (hI H 69 58) := rfl
  by_cases x1 : x = 69
  · subst x1
    rw [hI_wI, if_pos rfl, e1, e2]
    funext i
    unfold fup
    by_cases q1 : i = 41
    · subst q1; rfl
    · rw [if_neg q1, if_neg q1]
  · rw [hI_wI, if_neg x1]
    unfold bkH bkZ bkY bkX
    simp only [hI_wI, hI_wL, hI_wF, hI_wD, hL_wI, hL_wL, hL_wF, hL_wD, hF_wI, hF_wL, hF_wF, hF_wD, hD_wI, hD_wL, hD_wF, hD_wD]
    simp [x1]
theorem kp_o {f : Int → Int} {g : Int → UInt64} : FqO [69, 103] (kpH (wD (wI τ 69 f) 103 g)) (kpH τ) := fun x hx => by
  have x1 : ¬ x = 69 := fun q => hx (by rw [q]; decide)
  have x2 : ¬ x = 103 := fun q => hx (by rw [q]; decide)
  refine ⟨?_, ?_, ?_, ?_⟩ <;> unfold kpH kpZ kpY kpX <;> simp only [hI_wI, hI_wL, hI_wF, hI_wD, hL_wI, hL_wL, hL_wF, hL_wD, hF_wI, hF_wL, hF_wF, hF_wD, hD_wI, hD_wL, hD_wF, hD_wD] <;> simp [x1, x2]
theorem sw_o {ω : Hp} {k n : Nat} {m q : Int} {x y : UInt64} : ∀ j : Nat, (hI (swS ω N k m q x y n j) 71 = hI ω 71 ∧ hL (swS ω N k m q x y n j) 71 = hL ω 71 ∧ hF (swS ω N k m q x y n j) 71 = hF ω 71) ∧ hI (swS ω N k m q x y n j) 103 = hI ω 103 ∧ hL (swS ω N k m q x y n j) 103 = hL ω 103 ∧ hF (swS ω N k m q x y n j) 103 = hF ω 103
  | 0 => ⟨⟨rfl, rfl, rfl⟩, rfl, rfl, rfl⟩
  | j + 1 => by
    obtain ⟨⟨a1, a2, a3⟩, b1, b2, b3⟩ := sw_o (ω := ω) (k := k) (n := n) (m := m) (q := q) (x := x) (y := y) j
    have F : FqO TrR (swX (swS ω N k m q x y n j) m (swv x y j)) (trH (swX (swS ω N k m q x y n j) m (swv x y j)) N n (lenD k)) := fo_tr
    exact ⟨⟨(F.I (c := 71) (by decide)).trans a1, (F.L (c := 71) (by decide)).trans a2, (F.F (c := 71) (by decide)).trans a3⟩, (F.I (c := 103) (by decide)).trans b1, (F.L (c := 103) (by decide)).trans b2, (F.F (c := 103) (by decide)).trans b3⟩
theorem ptc_eq {T ν : Hp} {f : Int → Int} (a : hI T 71 = hI ν 71 ∧ hL T 71 = hL ν 71 ∧ hF T 71 = hF ν 71) (b : hI T 103 = hI ν 103 ∧ hL T 103 = hL ν 103 ∧ hF T 103 = hF ν 103 ∧ hD T 103 = hD ν 103) : ptc (ptc (wI T 69 f) ν 103) ν 71 = wI (wD T 71 (hD ν 71)) 69 f := by
  obtain ⟨a1, a2, a3⟩ := a
  obtain ⟨b1, b2, b3, b4⟩ := b
  refine hp_ext (fun x => ?_) (fun x => ?_) (fun x => ?_) (fun x => ?_) <;> unfold ptc <;> simp only [hI_wI, hI_wL, hI_wF, hI_wD, hL_wI, hL_wL, hL_wF, hL_wD, hF_wI, hF_wL, hF_wF, hF_wD, hD_wI, hD_wL, hD_wF, hD_wD] <;> by_cases x1 : x = 71 <;> by_cases x2 : x = 103 <;> simp_all
theorem sw_fin {k n j : Nat} {m q c : Int} {x y : UInt64} {T : Hp} (eT : T = swS (swK τ m) N k m q x y n (j + 1)) (h : RlN (wD (wI τ 69 (fup (hI τ 69) 41 c)) 103 (hD T 103)) N S) (o : ¬ hI τ 69 11 = 0) (w : WS T N) (z : Zr T N) : RlN (swE T m c) N S := by
  have ka : hI (kpH τ) 69 = fup (hI τ 69) 58 (hI τ 69 12) := rfl
  have zk : Zt (swK τ m) N := h.2.2.2.2.2.2.1.2.2.1
  have zt : Zt T N := by rw [eT]; exact sw_zt zk _
  have e59 : hD T 69 59 = hD τ 71 m := by rw [eT, sw_59]; rfl
  have e71 : fup (hD T 71) m (hD T 69 59) = hD τ 71 := by
    rw [eT, sw_71, ← eT, e59]
    exact fup_id (hD τ 71) m
  have so : (hI T 71 = hI τ 71 ∧ hL T 71 = hL τ 71 ∧ hF T 71 = hF τ 71) ∧ hI T 103 = hI τ 103 ∧ hL T 103 = hL τ 103 ∧ hF T 103 = hF τ 103 := by rw [eT]; exact sw_o (j + 1)
  have F0 : FqO (103 :: 71 :: TrR) (kpH τ) T := by rw [eT]; exact fo_sw _
  have h69 : ∀ i : Int, ¬ i = 12 → ¬ i = 44 → hI T 69 i = hI (kpH τ) 69 i := fun i a b => by rw [eT, sw_69 a b]; rfl
  have lv : Ag (hI T 79) (lvC (hI τ 70) (hI τ 72) N) N := by
    have e : hI T 79 = hI (trH (swX (swS (swK τ m) N k m q x y n j) m (swv x y j)) N n (lenD k)) 79 := by rw [eT]; rfl
    have G : FqO (103 :: 71 :: TrR) (kpH τ) (swS (swK τ m) N k m q x y n j) := fo_sw _
    have g0 : hI (swX (swS (swK τ m) N k m q x y n j) m (swv x y j)) 70 = hI τ 70 := G.I (c := 70) (by decide)
    have g2 : hI (swX (swS (swK τ m) N k m q x y n j) m (swv x y j)) 72 = hI τ 72 := G.I (c := 72) (by decide)
    rw [e, tr_79, g0, g2]
    exact lvs_ag h.2.2.1.2.2.1
  clear eT
  have eE : swE T m c = bkH (ptc (ptc (wI T 69 (fup (hI T 69) 41 c)) (wD (wI τ 69 (fup (hI τ 69) 41 c)) 103 (hD T 103)) 103) (wD (wI τ 69 (fup (hI τ 69) 41 c)) 103 (hD T 103)) 71) := by
    unfold swE
    rw [e71, ptc_eq (ν := wD (wI τ 69 (fup (hI τ 69) 41 c)) 103 (hD T 103)) ⟨so.1.1, so.1.2.1, so.1.2.2⟩ ⟨so.2.1, so.2.2.1, so.2.2.2, rfl⟩, bk_41]
    rfl
  rw [eE]
  refine sw_end h o ?_ w z zt lv (fun i a b => ?_)
  · exact ((kp_o.weak (by decide)).trans F0).wI (by decide)
  · show fup (hI T 69) 41 c i = fup (fup (hI τ 69) 41 c) 58 (fup (hI τ 69) 41 c 12) i
    have q := h69 i a b
    rw [ka] at q
    by_cases g : i = 41
    · subst g; rfl
    · rw [fup_n g, q]
      by_cases g2 : i = 58
      · subst g2; rfl
      · rw [fup_n g2, fup_n g2, fup_n g]
end RSE
