/-! ===== class and reference: patching ===== -/
section RPA
variable {σ : Hp} {N S : Nat}
theorem pr_fail {m t : Int} (h : Rel σ) (hm : inR m) (ht : inR t) : PrI mX_fail mM_fail [vI m, vI t] σ := by
  have h0 := h
  obtain ⟨N, S, hA, hB, hP, hLa, hS, hW, hM, hO⟩ := h0
  refine cX_fail hA.sz hm ht (fun g => ⟨_, rfl, cM_fail hA.sc hm ht (fun _ => ⟨rfl, h⟩) (fun q _ => absurd (hA.m.mpr q) g) (fun q _ => absurd (hA.m.mpr q) g)⟩) (fun g z => ⟨_, rfl, cM_fail hA.sc hm ht (fun q => absurd (hA.m.mp g) q) (fun _ _ => ⟨rfl, h⟩) (fun _ q => absurd q z)⟩) (fun g z => ⟨_, rfl, cM_fail (σ := wI σ 14 (fup (hI σ 14) m t)) hA.sc hm ht (fun q => absurd (hA.m.mp g) q) (fun _ q => absurd z q) (fun _ _ => ⟨rfl, N, S, hA, ?_, ?_, hLa, hS, hW, hM, hO⟩)⟩)
  · obtain ⟨b1, b2, b3, b4, b5, b6, b7, b8, b9, b10, b11⟩ := hB
    refine ⟨b1, b2, b3, b4, b5, b6, b7, b8, b9, b10, ?_⟩
    show fup (hI σ 14) m t = fup (hI σ 78) m t
    rw [b11]
  · obtain ⟨p1, p2, p3, p4, p5, p6, p7, p8, p9, p10⟩ := hP
    refine ⟨p1, p2, p3, p4, p5, p6, p7, p8, p9, fun k x y => ?_⟩
    show 0 ≤ fup (hI σ 78) m t k ∧ fup (hI σ 78) m t k ≤ 300
    unfold fup
    split
    · exact z
    · exact p10 k x y
theorem pr_rule {r k : Int} (h : Rel σ) (hr : inR r) (hk : inR k) : PrI mX_rule mM_rule [vI r, vI k] σ := by
  have h0 := h
  obtain ⟨N, S, hA, hB, hP, hLa, hS, hW, hM, hO⟩ := h0
  refine cX_rule hA.sz hr hk (fun g => ⟨_, rfl, cM_rule hA.sc hr hk (fun _ => ⟨rfl, h⟩) (fun q _ => absurd q g) (fun q _ => absurd q g)⟩) (fun g z => ⟨_, rfl, cM_rule hA.sc hr hk (fun q => absurd g q) (fun _ _ => ⟨rfl, h⟩) (fun _ q => absurd (hA.o.mpr q) z)⟩) (fun g z => ⟨_, rfl, cM_rule (σ := wI (wI σ 3 (fup (hI σ 3) 1 r)) 3 (fup (fup (hI σ 3) 1 r) 2 k)) hA.sc hr hk (fun q => absurd g q) (fun _ q => absurd (hA.o.mp z) q) (fun _ q => ⟨rfl, N, S, ?_, hB, hP, hLa, hS, hW, hM, fun o => absurd q o⟩)⟩)
  unfold RlA at hA ⊢
  simp only [hI_wI]
  simp [fup]
  omega
theorem pr_strip {m : Int} (h : Rel σ) (hm : inR m) : PrI mX_strip mM_strip [vI m] σ := by
  have h0 := h
  obtain ⟨N, S, hA, hB, hP, hLa, hS, hW, hM, hO⟩ := h0
  have e6 : hI σ 47 0 = hI σ 69 37 := by rw [hA.2.1.1, hA.2.1.2.1]
  refine cX_strip hA.sz hm (fun g => ⟨_, rfl, cM_strip hA.sc hm (fun _ => ⟨rfl, h⟩) (fun q _ => absurd (hA.m.mpr q) g) (fun q _ _ => absurd (hA.m.mpr q) g) (fun q _ _ => absurd (hA.m.mpr q) g)⟩) (fun g z => ⟨_, rfl, cM_strip hA.sc hm (fun q => absurd (hA.m.mp g) q) (fun _ _ => ⟨rfl, h⟩) (fun _ q _ => absurd (hA.o.mpr q) z) (fun _ q _ => absurd (hA.o.mpr q) z)⟩) (fun g z w => ⟨_, rfl, cM_strip hA.sc hm (fun q => absurd (hA.m.mp g) q) (fun _ q => absurd (hA.o.mp z) q) (fun _ _ _ => ⟨rfl, h⟩) (fun _ _ q => absurd (e6 ▸ q) w)⟩) (fun g z w => ⟨_, rfl, cM_strip (σ := saH σ m) hA.sc hm (fun q => absurd (hA.m.mp g) q) (fun _ q => absurd (hA.o.mp z) q) (fun _ _ q => ?_) (fun _ q _ => ⟨?_, N, S + 1, ?_, hB, hP, hLa, ?_, hW, hM, fun o => absurd q o⟩)⟩)
  · have q : hI σ 69 37 = 6 := q
    exfalso; omega
  · show some (vI (hI σ 69 37)) = some (vI (hI σ 47 0))
    rw [e6]
  · unfold RlA at hA ⊢
    unfold saH
    simp only [hI_wI]
    simp [fup]
    omega
  · obtain ⟨s1, s2, s3, s4, s5⟩ := hS
    have g2 := hA.n g
    have hS6 := hA.2.1
    refine ⟨?_, ?_, s3, fun s x y => ?_, s5⟩
    · show fup (hI σ 48) (hI σ 47 0) m = fup (hI σ 100) (hI σ 69 37) m
      rw [s1, e6]
    · show fup (hI σ 49) (hI σ 47 0) 0 = fup (hI σ 101) (hI σ 69 37) 0
      rw [s2, e6]
    · show (0 ≤ fup (hI σ 101) (hI σ 69 37) 0 s ∧ fup (hI σ 101) (hI σ 69 37) 0 s ≤ 120) ∧ 0 ≤ fup (hI σ 100) (hI σ 69 37) m s ∧ fup (hI σ 100) (hI σ 69 37) m s < N
      by_cases e : s = hI σ 69 37
      · rw [e, fup_s, fup_s]; omega
      · rw [fup_n e, fup_n e]; exact s4 s x (by omega)
theorem i64u (x : Int64) : x.toUInt64.toInt64 = x := rfl
theorem sml_bd {x : Int64} (h : isSml x = true) : dec x = x.toUInt64 ∧ x.toUInt64.toNat % 2 ^ 63 ≤ 4609434218613702656 := by
  unfold isSml at h
  rw [Bool.and_eq_true] at h
  have h1 := of_decide_eq_true h.1
  have h2 := of_decide_eq_true h.2
  have k := dwi_key (isNum_nn h1) (by decide +kernel) (by decide +kernel) h2
  have e1 : FP.Core.dkey 13832806255468478464 = -4609434218613702656 := by decide +kernel
  have e2 : FP.Core.dkey 4609434218613702656 = 4609434218613702656 := by decide +kernel
  rw [e1, e2] at k
  have b := key_bd k.1 k.2
  refine ⟨?_, by omega⟩
  rcases dec_cases x with c | c
  · exact c.1
  · exact absurd h1 c.2
theorem pr_begin {m : Int} {x : Int64} (h : Rel σ) (hm : inR m) : PrI mX_begin mM_begin [vI m, vL x] σ := by
  have h0 := h
  obtain ⟨N, S, hN⟩ := h0
  have hkd := RlN.kd hN
  obtain ⟨hA, hB, hP, hLa, hS, hW, hM, hO⟩ := hN
  obtain ⟨b1, b2, b3, b4, b5, b6, b7, b8, b9, b10, b11⟩ := hB
  have hk : isM σ m → inR (hI σ 70 m) := fun g => by
    have g2 := hA.n (hA.m.mpr g)
    exact hkd m g2.1 g2.2
  have hk4 : ∀ m : Int, cM σ m → inR (hI σ 4 m) := fun m g => by
    have g2 := hA.n g
    rw [b1]; exact hkd m g2.1 g2.2
  have cd : (inRg (dec x) ∧ rem (hI σ 4 m)) ↔ (isSml x = true ∧ rem (hI σ 70 m)) := by rw [rg_dec, b1]
  refine cX_begin hA.sz hm hk4 (fun g => ⟨_, rfl, cM_begin hA.sc hm hk (fun _ => ⟨rfl, h⟩) (fun q _ => absurd (hA.m.mpr q) g) (fun q _ _ => absurd (hA.m.mpr q) g) (fun q _ _ => absurd (hA.m.mpr q) g)⟩) (fun g z => ⟨_, rfl, cM_begin hA.sc hm hk (fun q => absurd (hA.m.mp g) q) (fun _ _ => ⟨rfl, h⟩) (fun _ q _ => absurd (cd.mpr q) z) (fun _ q _ => absurd (cd.mpr q) z)⟩) (fun g z w => ⟨_, rfl, cM_begin hA.sc hm hk (fun q => absurd (hA.m.mp g) q) (fun _ q => absurd (cd.mp z) q) (fun _ _ _ => ⟨rfl, h⟩) (fun _ _ q => absurd (hA.o.mpr q) w)⟩) (fun g z w => ⟨_, rfl, cM_begin (σ := wD (wL σ 7 (fup (hL σ 7) m x)) 8 (fup (hD σ 8) m (dec x))) hA.sc hm hk (fun q => absurd (hA.m.mp g) q) (fun _ q => absurd (cd.mp z) q) (fun _ _ q => absurd (hA.o.mp w) q) (fun _ _ q => ⟨rfl, N, S, hA, ?_, ?_, hLa, hS, hW, hM, fun o => absurd q o⟩)⟩)
  · have sb := sml_bd (cd.mp z).1
    refine ⟨b1, b2, b3, ?_, ?_, b6, b7, b8, b9, b10, b11⟩
    · show fup (hL σ 7) m x = fun k => (fup (hD σ 74) m x.toUInt64 k).toInt64
      funext k
      unfold fup
      split
      · rfl
      · rw [b4]
    · show fup (hD σ 8) m (dec x) = fup (hD σ 74) m x.toUInt64
      rw [b5, sb.1]
  · have sb := sml_bd (cd.mp z).1
    obtain ⟨p1, p2, p3, p4, p5, p6, p7, p8, p9, p10⟩ := hP
    refine ⟨p1, p2, p3, p4, p5, p6, p7, p8, fun k x' y => ?_, p10⟩
    show (fup (hD σ 74) m x.toUInt64 k).toNat % 2 ^ 63 ≤ 4609434218613702656
    unfold fup
    split
    · exact sb.2
    · exact p9 k x' y
theorem pr_setting {m : Int} {x : Int64} (h : Rel σ) (hm : inR m) : PrI mX_setting mM_setting [vI m, vL x] σ := by
  have h0 := h
  obtain ⟨N, S, hN⟩ := h0
  have hkd := RlN.kd hN
  obtain ⟨hA, hB, hP, hLa, hS, hW, hM, hO⟩ := hN
  obtain ⟨b1, b2, b3, b4, b5, b6, b7, b8, b9, b10, b11⟩ := hB
  have hk : isM σ m → inR (hI σ 70 m) := fun g => by
    have g2 := hA.n (hA.m.mpr g)
    exact hkd m g2.1 g2.2
  have hk4 : ∀ m : Int, cM σ m → inR (hI σ 4 m) := fun m g => by
    have g2 := hA.n g
    rw [b1]; exact hkd m g2.1 g2.2
  have cd : isSet (hI σ 4 m) (dec x) = true ↔ (isNum x ∧ isSet (hI σ 70 m) x.toUInt64 = true) := by rw [set_dec, b1]
  refine cX_setting hA.sz hm hk4 (fun g => ⟨_, rfl, cM_setting hA.sc hm hk (fun _ => ⟨rfl, h⟩) (fun q _ => absurd (hA.m.mpr q) g) (fun q _ _ => absurd (hA.m.mpr q) g) (fun q _ _ => absurd (hA.m.mpr q) g)⟩) (fun g z => ⟨_, rfl, cM_setting hA.sc hm hk (fun q => absurd (hA.m.mp g) q) (fun _ _ => ⟨rfl, h⟩) (fun _ q _ => absurd (cd.mpr q) z) (fun _ q _ => absurd (cd.mpr q) z)⟩) (fun g z w => ⟨_, rfl, cM_setting hA.sc hm hk (fun q => absurd (hA.m.mp g) q) (fun _ q => absurd (cd.mp z) q) (fun _ _ _ => ⟨rfl, h⟩) (fun _ _ q => absurd (hA.o.mpr q) w)⟩) (fun g z w => ⟨_, rfl, cM_setting (σ := wD (wL σ 5 (fup (hL σ 5) m x)) 6 (fup (hD σ 6) m (dec x))) hA.sc hm hk (fun q => absurd (hA.m.mp g) q) (fun _ q => absurd (cd.mp z) q) (fun _ _ q => absurd (hA.o.mp w) q) (fun _ _ q => ⟨rfl, N, S, hA, ?_, ?_, hLa, hS, hW, hM, fun o => absurd q o⟩)⟩)
  · have sb := set_bits z
    refine ⟨b1, ?_, ?_, b4, b5, b6, b7, b8, b9, b10, b11⟩
    · show fup (hL σ 5) m x = fun k => (fup (hD σ 71) m x.toUInt64 k).toInt64
      funext k
      unfold fup
      split
      · rfl
      · rw [b2]
    · show fup (hD σ 6) m (dec x) = fup (hD σ 71) m x.toUInt64
      rw [b3, sb]
  · obtain ⟨p1, p2, p3, p4, p5, p6, p7, p8, p9, p10⟩ := hP
    have g2 := hA.n g
    refine ⟨fun k x' y => ?_, ?_, p3, p4, p5, p6, p7, p8, p9, p10⟩
    · show (0 ≤ hI σ 70 k ∧ hI σ 70 k < 14) ∧ vf_n64 (fup (hD σ 71) m x.toUInt64 k) ∧ isSet (hI σ 70 k) (fup (hD σ 71) m x.toUInt64 k) = true
      refine ⟨(p1 k x' y).1, ?_⟩
      by_cases e : k = m
      · subst e
        rw [fup_s]; exact ⟨isNum_nn (cd.mp z).1, (cd.mp z).2⟩
      · rw [fup_n e]; exact (p1 k x' y).2
    · show fup (hD σ 71) m x.toUInt64 (-1) = FP.dconst0
      rw [fup_n (by omega)]; exact p2
end RPA
