/-! ===== a step of the reference, whole ===== -/
abbrev Zr (σ : Hp) (N : Nat) : Prop := ∀ m : Int, 0 ≤ m → m < N → ¬ hI σ 70 m = 2 → hD σ 115 m = FP.dconst0 ∧ hF σ 116 m = FP.fconst0
abbrev Bf (σ : Hp) (N : Nat) : Prop := ∀ m : Int, 0 ≤ m → m < N → mg (hD σ 108 m) 1024 ∧ mf (hF σ 112 m) 128
abbrev Nx (σ : Hp) (N : Nat) : Prop := ∀ m : Int, 0 ≤ m → m < N → hI σ 70 m = 3 ∨ hI σ 70 m = 11 → mg (hD σ 113 m) 1024 ∧ mf (hF σ 114 m) 128
abbrev WT (σ : Hp) (N : Nat) : Prop := WS σ N ∧ Zr σ N ∧ Bf σ N ∧ Nx σ N
abbrev Rq (σ : Hp) (N : Nat) : Prop := ∀ m : Int, 0 ≤ m → m < N → mg (hD σ 115 m) 1060 ∧ mf (hF σ 116 m) 160
theorem Rb.q {σ : Hp} {N : Nat} (h : Rb σ 115 116 N) : Rq σ N := fun m h0 h1 => ⟨(h m h0 h1).1.mono (by decide), (h m h0 h1).2.mono (by decide)⟩
theorem mg_d0 (K : Nat) : mg FP.dconst0 (K + 1) := by
  show (0 : Nat) % 2 ^ 63 < _
  have := Nat.two_pow_pos 52
  rw [Nat.zero_mod]
  exact Nat.mul_pos (Nat.succ_pos K) this
theorem mf_f0 (K : Nat) : mf FP.fconst0 (K + 1) := by
  show (0 : Nat) % 2 ^ 31 < _
  have := Nat.two_pow_pos 23
  rw [Nat.zero_mod]
  exact Nat.mul_pos (Nat.succ_pos K) this
section REF12
variable {σ : Hp} {Q : Option PV → Hp → Prop} {N : Nat}
theorem p1_W (hw : WS σ N) (hz : Zr σ N) : WT (p1H σ N) N := by
  refine ⟨hw, hz, fun m h0 h1 => ?_, fun m h0 h1 hk => ?_⟩
  · show mg (pw (hD σ 108) (hD σ 80) N m) 1024 ∧ mf (pw (hF σ 112) (hF σ 81) N m) 128
    rw [pw_lo h0 h1, pw_lo h0 h1]
    exact hw.1.2.2.2.2.2.1 m h0 (by have := hw.1.2.1; omega)
  · show mg (pw (hD σ 113) (nxS arD (hI σ 70) (hI σ 72) (hI σ 73) (hD σ 82) (hD σ 80) (hD σ 113)) N m) 1024 ∧ mf (pw (hF σ 114) (nxS arF (hI σ 70) (hI σ 72) (hI σ 73) (hF σ 83) (hF σ 81) (hF σ 114)) N m) 128
    rw [pw_lo h0 h1, pw_lo h0 h1]
    have hst := hw.1.2.2.2.2.2.1 m h0 (by have := hw.1.2.1; omega)
    have hcd := (hw.1.2.2.1 m h0 h1).2.1
    have hx := hw.2.2 m h0 h1
    have g : ∀ i : Int, 0 ≤ i → i < 6 → ¬ hI σ 72 (6 * m + i) = -1 → mg (gin arD (hI σ 72) (hI σ 73) (hD σ 82) m i) 1024 ∧ mf (gin arF (hI σ 72) (hI σ 73) (hF σ 83) m i) 128 := fun i a b c => by
      have hb := hcd i a b
      have hr := hw.2.1 (hI σ 72 (6 * m + i)) (by omega) (by omega)
      exact ⟨gin_mg hr.1, gin_mf hr.2⟩
    have hk : hI σ 70 m = 3 ∨ hI σ 70 m = 11 := hk
    rcases hk with k3 | k11
    · rw [nxS_3D _ _ _ _ _ _ k3, nxS_3F _ _ _ _ _ _ k3]
      have g0 := g 0 (by omega) (by omega) (hx.1 k3).1
      constructor
      · split
        · exact g0.1
        · exact hst.1
      · split
        · exact g0.2
        · exact hst.2
    · rw [nxS_11D _ _ _ _ _ _ k11, nxS_11F _ _ _ _ _ _ k11]
      exact g 0 (by omega) (by omega) (hx.2 k11).1
theorem ra_W (hw : WT σ N) : WT (raH σ N) N ∧ Rb (raH σ N) 115 116 N := by
  obtain ⟨h1, h2, h3, h4⟩ := hw
  have eD : ∀ m : Int, 0 ≤ m → m < N → hD (raH σ N) 115 m = gsm arD (hI σ 70) (hI σ 72) (hI σ 73) (hD σ 82) (hD σ 115) m := fun m a b => pw_lo a b
  have eF : ∀ m : Int, 0 ≤ m → m < N → hF (raH σ N) 116 m = gsm arF (hI σ 70) (hI σ 72) (hI σ 73) (hF σ 83) (hF σ 116) m := fun m a b => pw_lo a b
  refine ⟨⟨h1, fun m a b hk => ?_, h3, h4⟩, fun m a b => ?_⟩
  · rw [eD m a b, eF m a b]
    unfold gsm
    have hk : ¬ hI σ 70 m = 2 := hk
    rw [if_neg hk, if_neg hk]
    exact h2 m a b hk
  · rw [eD m a b, eF m a b]
    unfold gsm
    by_cases hk : hI σ 70 m = 2
    · rw [if_pos hk, if_pos hk]
      have hcd := (h1.1.2.2.1 m a b).2.1
      have hb := h1.2.1
      exact ⟨gsum_mg (fun j hj h => by have := hcd j (by omega) (by omega); exact (hb _ (by omega) (by omega)).1) 6 (by omega), gsum_mf (fun j hj h => by have := hcd j (by omega) (by omega); exact (hb _ (by omega) (by omega)).2) 6 (by omega)⟩
    · rw [if_neg hk, if_neg hk, (h2 m a b hk).1, (h2 m a b hk).2]
      exact ⟨mg_d0 1035, mf_f0 139⟩
theorem kr_W1 (hr : Rb σ 115 116 N) : Rb (krH1 σ N) 105 109 N := fun m a b => by
  show mg (pw (hD σ 105) (hD σ 115) N m) 1036 ∧ mf (pw (hF σ 109) (hF σ 116) N m) 140
  rw [pw_lo a b, pw_lo a b]
  exact hr m a b
theorem kr_W2 (hr : Rb σ 115 116 N) : Rb (krH2 σ N) 106 110 N := fun m a b => by
  show mg (pw (hD σ 106) (hD σ 115) N m) 1036 ∧ mf (pw (hF σ 110) (hF σ 116) N m) 140
  rw [pw_lo a b, pw_lo a b]
  exact hr m a b
theorem kr_W3 (hr : Rb σ 115 116 N) : Rb (krH3 σ N) 107 111 N := fun m a b => by
  show mg (pw (hD σ 107) (hD σ 115) N m) 1036 ∧ mf (pw (hF σ 111) (hF σ 116) N m) 140
  rw [pw_lo a b, pw_lo a b]
  exact hr m a b
theorem ad_W (hw : WT σ N) (h1 : Rb σ 105 109 N) (hz : ∀ m : Int, 0 ≤ m → m < N → ¬ hI σ 70 m = 2 → hD σ 105 m = FP.dconst0 ∧ hF σ 109 m = FP.fconst0) (h2 : Rb σ 115 116 N) : WT (adH σ N) N ∧ Rq (adH σ N) N := by
  have eD : ∀ m : Int, 0 ≤ m → m < N → hD (adH σ N) 115 m = FP.dadd (hD σ 105 m) (hD σ 115 m) := fun m a b => pw_lo (f := hD σ 115) (g := fun m => Aadd arD (hD σ 105 m) (hD σ 115 m)) a b
  have eF : ∀ m : Int, 0 ≤ m → m < N → hF (adH σ N) 116 m = FP.fadd (hF σ 109 m) (hF σ 116 m) := fun m a b => pw_lo (f := hF σ 116) (g := fun m => Aadd arF (hF σ 109 m) (hF σ 116 m)) a b
  refine ⟨⟨hw.1, fun m a b hk => ?_, hw.2.2.1, hw.2.2.2⟩, fun m a b => ?_⟩
  · rw [eD m a b, eF m a b, (hz m a b hk).1, (hz m a b hk).2, (hw.2.1 m a b hk).1, (hw.2.1 m a b hk).2]
    exact ⟨dn0, fn0⟩
  · rw [eD m a b, eF m a b]
    exact ⟨(mg_add (h1 m a b).1 (h2 m a b).1 (by decide)).mono (by decide), (mf_add (h1 m a b).2 (h2 m a b).2 (by decide)).mono (by decide)⟩
theorem gwg0D : gwg arD FP.dconst0 FP.dconst0 FP.dconst0 FP.dconst0 = FP.dconst0 := by rw [gwg_D]; decide +kernel
theorem gwg0F : gwg arF FP.fconst0 FP.fconst0 FP.fconst0 FP.fconst0 = FP.fconst0 := by rw [gwg_F]; decide +kernel
abbrev Zc (σ : Hp) (c d N : Nat) : Prop := ∀ m : Int, 0 ≤ m → m < N → ¬ hI σ 70 m = 2 → hD σ c m = FP.dconst0 ∧ hF σ d m = FP.fconst0
theorem wg_W (hw : WT σ N) (h1 : Rb σ 105 109 N) (z1 : Zc σ 105 109 N) (h2 : Rb σ 106 110 N) (z2 : Zc σ 106 110 N) (h3 : Rb σ 107 111 N) (z3 : Zc σ 107 111 N) (h4 : Rb σ 115 116 N) : WT (wgH σ N) N ∧ Rq (wgH σ N) N := by
  have eD : ∀ m : Int, 0 ≤ m → m < N → hD (wgH σ N) 115 m = gwg arD (hD σ 105 m) (hD σ 106 m) (hD σ 107 m) (hD σ 115 m) := fun m a b => pw_lo (f := hD σ 115) (g := fun m => gwg arD (hD σ 105 m) (hD σ 106 m) (hD σ 107 m) (hD σ 115 m)) a b
  have eF : ∀ m : Int, 0 ≤ m → m < N → hF (wgH σ N) 116 m = gwg arF (hF σ 109 m) (hF σ 110 m) (hF σ 111 m) (hF σ 116 m) := fun m a b => pw_lo (f := hF σ 116) (g := fun m => gwg arF (hF σ 109 m) (hF σ 110 m) (hF σ 111 m) (hF σ 116 m)) a b
  refine ⟨⟨hw.1, fun m a b hk => ?_, hw.2.2.1, hw.2.2.2⟩, fun m a b => ?_⟩
  · rw [eD m a b, eF m a b, (z1 m a b hk).1, (z1 m a b hk).2, (z2 m a b hk).1, (z2 m a b hk).2, (z3 m a b hk).1, (z3 m a b hk).2, (hw.2.1 m a b hk).1, (hw.2.1 m a b hk).2]
    exact ⟨gwg0D, gwg0F⟩
  · rw [eD m a b, eF m a b]
    exact ⟨(gwg_obD (h1 m a b).1 (h2 m a b).1 (h3 m a b).1 (h4 m a b).1).2.2.2.2.2.2, (gwg_obF (h1 m a b).2 (h2 m a b).2 (h3 m a b).2 (h4 m a b).2).2.2.2.2.2.2⟩
theorem kr_Z1 (hr : Zr σ N) : Zc (krH1 σ N) 105 109 N := fun m a b hk => by
  show pw (hD σ 105) (hD σ 115) N m = _ ∧ pw (hF σ 109) (hF σ 116) N m = _
  rw [pw_lo a b, pw_lo a b]
  exact hr m a b hk
theorem kr_Z2 (hr : Zr σ N) : Zc (krH2 σ N) 106 110 N := fun m a b hk => by
  show pw (hD σ 106) (hD σ 115) N m = _ ∧ pw (hF σ 110) (hF σ 116) N m = _
  rw [pw_lo a b, pw_lo a b]
  exact hr m a b hk
theorem kr_Z3 (hr : Zr σ N) : Zc (krH3 σ N) 107 111 N := fun m a b hk => by
  show pw (hD σ 107) (hD σ 115) N m = _ ∧ pw (hF σ 111) (hF σ 116) N m = _
  rw [pw_lo a b, pw_lo a b]
  exact hr m a b hk
theorem sg_W {t : UInt64} (ht : mg t 1024) (hw : WT σ N) (hr : Rq σ N) : WT (sgH σ t N) N := by
  obtain ⟨⟨⟨a1, a2, a3, a4, a5, a6, a7⟩, b2, b3⟩, h2, h3, h4⟩ := hw
  have htf : mf (FP.d2f t) 129 := d2f_mf ht
  refine ⟨⟨⟨a1, a2, fun m x y => ?_, a4, a5, fun k x y => ?_, a7⟩, b2, b3⟩, h2, h3, h4⟩
  · obtain ⟨g1, g2, g3, g4, g5, g6, g7, g8⟩ := a3 m x y
    exact ⟨g1, g2, g3, g4, g5, g6, g7, by rw [sgH_L]; exact lms_inR g8 a5⟩
  · show mg (pw (hD σ 80) (gmvS arD (hI σ 70) t (hD σ 108) (hD σ 115) (hD σ 80)) N k) 1024 ∧ mf (pw (hF σ 81) (gmvS arF (hI σ 70) (FP.d2f t) (hF σ 112) (hF σ 116) (hF σ 81)) N k) 128
    by_cases hk : k < N
    · rw [pw_lo x hk, pw_lo x hk]
      unfold gmvS
      by_cases h2k : hI σ 70 k = 2
      · rw [if_pos h2k, if_pos h2k]
        have r := hr k x hk
        have b := h3 k x hk
        have q1 := (mg_mul ht r.1 (by decide) (by decide)).mono (show _ ≤ 1100 by decide)
        have q2 := mf_mul2 htf r.2 (by decide) (by decide)
        have n1 : vf_n64 (FP.dadd (hD σ 108 k) (FP.dmul t (hD σ 115 k))) := (mg_add (b.1.mono (show _ ≤ 1100 by decide)) q1 (by decide)).nn (by decide)
        have n2 : vf_n32 (FP.fadd (hF σ 112 k) (FP.fmul (FP.d2f t) (hF σ 116 k))) := (mf_add (b.2.mono (show _ ≤ 180 by decide)) (q2.mono (by decide)) (by decide)).nn (by decide)
        exact ⟨(gaft_okD n1).mg, (gaft_okF n2).mf⟩
      · rw [if_neg h2k, if_neg h2k]; exact a6 k x y
    · rw [pw_hi (by omega), pw_hi (by omega)]; exact a6 k x y
theorem rd_W {L : List Int} (hw : WT σ N) (hg : RdG σ L) : WT (rdH σ L) N := by
  obtain ⟨⟨⟨a1, a2, a3, a4, a5, a6, a7⟩, b2, b3⟩, h2, h3, h4⟩ := hw
  refine ⟨⟨⟨a1, a2, fun m x y => ?_, a4, a5, a6, a7⟩, hg, b3⟩, h2, h3, h4⟩
  obtain ⟨g1, g2, g3, g4, g5, g6, g7, g8⟩ := a3 m x y
  exact ⟨g1, g2, g3, g4, g5, g6, g7, lms_inR (b := fun k => (rdD σ L).2 k || (rdF σ L).2 k) g8 a5⟩
theorem rowS_P {α : Type} {P : α → Prop} {kd nn : Int → Int} {f nx : Int → α} (hf : ∀ k : Int, 0 ≤ k → k < 320 → P (f k)) (hn : ∀ m : Int, 0 ≤ m → m < N → kd m = 11 → 1 ≤ nn m ∧ nn m ≤ 16 ∧ P (nx m)) (hN : N ≤ 20) : ∀ k : Int, 0 ≤ k → k < 320 → P (pw f (rowS kd nn f nx) (16 * N) k) := fun k h0 h1 => by
  by_cases h : k < (16 * N : Nat)
  · rw [pw_lo h0 h]
    unfold rowS
    by_cases hk : kd (k / 16) = 11
    · rw [if_pos hk]
      have := hn (k / 16) (by omega) (by omega) hk
      unfold shf
      by_cases c1 : 16 * (k / 16) ≤ k ∧ k < 16 * (k / 16) + nn (k / 16) - 1
      · rw [if_pos c1]; exact hf _ (by omega) (by omega)
      · rw [if_neg c1]
        by_cases c2 : k = 16 * (k / 16) + nn (k / 16) - 1
        · rw [if_pos c2]; exact this.2.2
        · rw [if_neg c2]; exact hf k h0 h1
    · rw [if_neg hk]; exact hf k h0 h1
  · rw [pw_hi (by omega)]; exact hf k h0 h1
theorem othS_P {α : Type} {P : α → Prop} {kd : Int → Int} {nx st z : Int → α} (hf : ∀ k : Int, 0 ≤ k → k < 20 → P (st k)) (hn : ∀ m : Int, 0 ≤ m → m < N → kd m = 3 → P (nx m)) (hz : ∀ m : Int, P (z m)) : ∀ k : Int, 0 ≤ k → k < 20 → P (pw st (othS kd nx st z) N k) := fun k h0 h1 => by
  by_cases h : k < N
  · rw [pw_lo h0 h]
    unfold othS
    by_cases c1 : kd k = 3
    · rw [if_pos c1]; exact hn k h0 h c1
    · rw [if_neg c1]
      by_cases c2 : kd k = 13
      · rw [if_pos c2]; exact hz k
      · rw [if_neg c2]; exact hf k h0 h1
  · rw [pw_hi (by omega)]; exact hf k h0 h1
theorem ot_W (hw : WT σ N) : WT (otH σ N) N := by
  obtain ⟨⟨⟨a1, a2, a3, a4, a5, a6, a7⟩, b2, b3⟩, h2, h3, h4⟩ := hw
  refine ⟨⟨⟨a1, a2, a3, a4, a5, fun k x y => ⟨?_, ?_⟩, fun k x y => ⟨?_, ?_⟩⟩, b2, b3⟩, h2, h3, h4⟩
  · exact othS_P (P := fun z => mg z 1024) (fun k x y => (a6 k x y).1) (fun m x y hk => (h4 m x y (Or.inl hk)).1) (fun m => mg_15 (nz_15 _)) k x y
  · exact othS_P (P := fun z => mf z 128) (fun k x y => (a6 k x y).2) (fun m x y hk => (h4 m x y (Or.inl hk)).2) (fun m => mf_15 (d2f_15 (nz_15 _))) k x y
  · exact rowS_P (P := fun z => mg z 1024) (fun k x y => (a7 k x y).1) (fun m x y hk => ⟨((b3 m x y).2 hk).2.1, ((b3 m x y).2 hk).2.2, (h4 m x y (Or.inr hk)).1⟩) a2 k x y
  · exact rowS_P (P := fun z => mf z 128) (fun k x y => (a7 k x y).2) (fun m x y hk => ⟨((b3 m x y).2 hk).2.1, ((b3 m x y).2 hk).2.2, (h4 m x y (Or.inr hk)).2⟩) a2 k x y
end REF12
