/-! ===== class and reference: levels, check, count, digest ===== -/
/-- the reference's rows, the class's rows -/
def mdl (σ : Hp) : Hp := (fun c => if c < 69 then fun _ => 0 else σ.1 c, fun c => if c < 69 then fun _ => 0 else σ.2.1 c, fun c => if c < 69 then fun _ => 0 else σ.2.2.1 c, fun c => if c < 69 then fun _ => 0 else σ.2.2.2 c)
def cls (σ : Hp) : Hp := (fun c => if c < 69 then σ.1 c else fun _ => 0, fun c => if c < 69 then σ.2.1 c else fun _ => 0, fun c => if c < 69 then σ.2.2.1 c else fun _ => 0, fun c => if c < 69 then σ.2.2.2 c else fun _ => 0)
theorem mdl_eq {σ τ : Hp} {S : List Nat} (F : FqO S σ τ) (hS : ∀ c ∈ S, c < 69) : mdl τ = mdl σ := by
  have e : ∀ c : Nat, ¬ c < 69 → τ.1 c = σ.1 c ∧ τ.2.1 c = σ.2.1 c ∧ τ.2.2.1 c = σ.2.2.1 c ∧ τ.2.2.2 c = σ.2.2.2 c := fun c h => F c (fun q => h (hS c q))
  unfold mdl
  refine Prod.ext (funext fun c => ?_) (Prod.ext (funext fun c => ?_) (Prod.ext (funext fun c => ?_) (funext fun c => ?_))) <;> dsimp only <;> by_cases h : c < 69
  · rw [if_pos h, if_pos h]
  · rw [if_neg h, if_neg h, (e c h).1]
  · rw [if_pos h, if_pos h]
  · rw [if_neg h, if_neg h, (e c h).2.1]
  · rw [if_pos h, if_pos h]
  · rw [if_neg h, if_neg h, (e c h).2.2.1]
  · rw [if_pos h, if_pos h]
  · rw [if_neg h, if_neg h, (e c h).2.2.2]
theorem cls_eq {σ τ : Hp} {S : List Nat} (F : FqO S σ τ) (hS : ∀ c ∈ S, ¬ c < 69) : cls τ = cls σ := by
  have e : ∀ c : Nat, c < 69 → τ.1 c = σ.1 c ∧ τ.2.1 c = σ.2.1 c ∧ τ.2.2.1 c = σ.2.2.1 c ∧ τ.2.2.2 c = σ.2.2.2 c := fun c h => F c (fun q => hS c q h)
  unfold cls
  refine Prod.ext (funext fun c => ?_) (Prod.ext (funext fun c => ?_) (Prod.ext (funext fun c => ?_) (funext fun c => ?_))) <;> dsimp only <;> by_cases h : c < 69
  · rw [if_pos h, if_pos h, (e c h).1]
  · rw [if_neg h, if_neg h]
  · rw [if_pos h, if_pos h, (e c h).2.1]
  · rw [if_neg h, if_neg h]
  · rw [if_pos h, if_pos h, (e c h).2.2.1]
  · rw [if_neg h, if_neg h]
  · rw [if_pos h, if_pos h, (e c h).2.2.2]
  · rw [if_neg h, if_neg h]
section RLV
variable {σ τ : Hp} {N S : Nat}
theorem ws_md (h : WS σ N) (e : mdl τ = mdl σ) : WS τ N := by
  have h1 : WS (mdl σ) N := h
  rw [← e] at h1
  exact h1
theorem pt_md (e : mdl τ = mdl σ) : ptD τ N = ptD σ N ∧ ptF τ N = ptF σ N ∧ tsD τ = tsD σ ∧ tsF τ = tsF σ ∧ nnR τ = nnR σ := by
  have h1 : ptD (mdl σ) N = ptD σ N ∧ ptF (mdl σ) N = ptF σ N ∧ tsD (mdl σ) = tsD σ ∧ tsF (mdl σ) = tsF σ ∧ nnR (mdl σ) = nnR σ := ⟨rfl, rfl, rfl, rfl, rfl⟩
  rw [← e] at h1
  exact h1
theorem RlP.md (h : RlP σ N) (e : mdl τ = mdl σ) : RlP τ N := by
  have h1 : RlP (mdl σ) N := h
  rw [← e] at h1
  exact h1
theorem row_md (e : mdl τ = mdl σ) : (∀ c : Nat, ¬ c < 69 → hI τ c = hI σ c) ∧ (∀ c : Nat, ¬ c < 69 → hF τ c = hF σ c) ∧ (∀ c : Nat, ¬ c < 69 → hD τ c = hD σ c) := by
  refine ⟨fun c h => ?_, fun c h => ?_, fun c h => ?_⟩
  · have h1 : hI (mdl σ) c = hI σ c := if_neg h
    have h2 : hI (mdl τ) c = hI τ c := if_neg h
    rw [← h1, ← h2, e]
  · have h1 : hF (mdl σ) c = hF σ c := if_neg h
    have h2 : hF (mdl τ) c = hF τ c := if_neg h
    rw [← h1, ← h2, e]
  · have h1 : hD (mdl σ) c = hD σ c := if_neg h
    have h2 : hD (mdl τ) c = hD τ c := if_neg h
    rw [← h1, ← h2, e]
theorem tws_lv {fr : Int → Int} {seD : Int → UInt64} {seF : Int → UInt32} {nn : Int → Int} {L : List Int} {PD : Pt UInt64} {PF : Pt UInt32} {TD : Ts UInt64} {TF : Ts UInt32} (h : Tws σ fr seD seF nn L N PD PF TD TF) (F : Fq [3, 15, 16, 17, 18] σ τ) (f1 : ∀ k : Int, ¬ k = 3 → hI τ 3 k = hI σ 3 k) (ho : OrdC τ L N) : Tws τ fr seD seF nn L N PD PF TD TF := by
  obtain ⟨⟨⟨x1, x2, x3, x4, x5, x6, x7⟩, a2, a3, a4⟩, ⟨⟨y1, y2, y3, y4, y5, y6, y7⟩, b2, b3, b4⟩, c⟩ := h
  refine ⟨⟨⟨?_, x2.lv F f1, ?_, x4.frm F (by decide), ho, ?_, ?_⟩, Rdd_fr a2 F (by decide), Std_fr a3 F (by decide), Sdd_fr a4 F (by decide)⟩, ⟨⟨?_, y2.lv F f1, ?_, y4.frm F (by decide), ho, ?_, ?_⟩, Rdf_fr b2 F (by decide), Stf_fr b3 F (by decide), Sdf_fr b4 F (by decide)⟩, Lpd_fr c F (by decide)⟩
  · unfold Pcd at x1 ⊢
    rw [F.I (c := 4) (by decide), F.I (c := 10) (by decide), F.I (c := 11) (by decide), F.D (c := 12) (by decide), F.D (c := 13) (by decide), f1 1 (by decide)]
    exact x1
  · rw [F.I (c := 21) (by decide)]; exact x3
  · rw [F.D (c := 23) (by decide), F.I (c := 4) (by decide)]; exact x6
  · rw [F.D (c := 23) (by decide), F.I (c := 4) (by decide), F.D (c := 25) (by decide), F.I (c := 26) (by decide)]; exact x7
  · unfold Pcf at y1 ⊢
    rw [F.I (c := 4) (by decide), F.I (c := 10) (by decide), F.I (c := 11) (by decide), F.D (c := 12) (by decide), F.D (c := 13) (by decide), f1 1 (by decide)]
    exact y1
  · rw [F.I (c := 34) (by decide)]; exact y3
  · rw [F.D (c := 36) (by decide), F.I (c := 4) (by decide)]; exact y6
  · rw [F.D (c := 36) (by decide), F.I (c := 4) (by decide), F.D (c := 38) (by decide), F.I (c := 39) (by decide)]; exact y7
/-- the class looks its levels up -/
theorem Rel_lv (h : RlN σ N S) (r : Rfr σ τ (hI σ 72) N) : RlN τ N S := by
  obtain ⟨F, f1, f3, f4, lv⟩ := r
  obtain ⟨hA, hB, hP, hLa, hS, hW, hM, hO⟩ := h
  have em := mdl_eq F.1 (by decide)
  obtain ⟨rI, rF, rD⟩ := row_md em
  refine ⟨?_, ?_, hP.md em, ?_, ?_, ?_, ?_, fun o => ?_⟩
  · obtain ⟨⟨a1, a2, a3⟩, b, c, d, e, f, g, i, j, k, l, m⟩ := hA
    unfold RlA
    rw [f1 0 (by decide), f1 1 (by decide), f1 2 (by decide), f3, F.I (c := 0) (by decide), F.I (c := 47) (by decide), F.I (c := 51) (by decide), F.I (c := 21) (by decide), F.I (c := 34) (by decide), F.I (c := 56) (by decide), rI 69 (by decide)]
    exact ⟨⟨a1, a2, a3⟩, b, c, d, e, f, g, i, Or.inl rfl, k, l, m⟩
  · unfold RlB
    rw [F.I (c := 4) (by decide), F.L (c := 5) (by decide), F.D (c := 6) (by decide), F.L (c := 7) (by decide), F.D (c := 8) (by decide), F.I (c := 9) (by decide), F.I (c := 10) (by decide), F.I (c := 11) (by decide), F.D (c := 12) (by decide), F.D (c := 13) (by decide), F.I (c := 14) (by decide), rI 70 (by decide), rD 71 (by decide), rI 72 (by decide), rI 73 (by decide), rD 74 (by decide), rI 75 (by decide), rD 76 (by decide), rD 77 (by decide), rI 78 (by decide)]
    exact hB
  · unfold RlL L20
    rw [F.I (c := 20) (by decide), rI 87 (by decide), F.I (c := 55) (by decide), F.I (c := 54) (by decide)]
    exact hLa
  · unfold RlS
    rw [F.I (c := 48) (by decide), F.I (c := 49) (by decide), F.L (c := 50) (by decide), rI 100 (by decide), rI 101 (by decide), rD 102 (by decide)]
    exact hS
  · unfold RlW
    rw [rI 69 (by decide), F.D (c := 52) (by decide), rD 103 (by decide)]
    exact hW
  · obtain ⟨m1, m2, m3, m4, m5, m6⟩ := hM
    refine ⟨?_, ?_, ?_, F.2 m4, fun _ => ?_, ?_⟩
    · unfold RdR
      rw [rD 82 (by decide), rF 83 (by decide), rD 80 (by decide), rF 81 (by decide), rD 84 (by decide), rF 85 (by decide)]; exact m1
    · unfold Zr
      rw [rI 70 (by decide), rD 115 (by decide), rF 116 (by decide)]; exact m2
    · unfold Zt
      rw [rD 115 (by decide), rF 116 (by decide)]; exact m3
    · rw [rI 72 (by decide)]; exact lv
    · rw [rD 88 (by decide), rD 89 (by decide)]; exact m6
  · rw [rI 69 (by decide)] at o
    obtain ⟨o1, o2, o3, o4, o5, o6, o7, o8⟩ := hO o
    obtain ⟨e1, e2, e3, e4, e5⟩ := pt_md (N := N) em
    refine ⟨f3, ?_, ?_, ws_md o4 em, ?_, ?_, ?_, ?_⟩
    · rw [rI 70 (by decide), rI 72 (by decide), rI 75 (by decide)]; exact o2
    · rw [rI 70 (by decide), rI 72 (by decide), rI 79 (by decide)]; exact o3
    · rw [e1, e2, e3, e4, e5, rI 72 (by decide), rD 71 (by decide), rI 79 (by decide)]
      refine tws_lv o5 F f1 ?_
      have l3 := lv.2.2
      rw [F.I (c := 4) (by decide), hB.1] at l3
      rw [ords_ag o3]; exact l3
    · rw [F.D (c := 2) (by decide), rD 88 (by decide)]; exact o6
    · rw [F.L (c := 1) (by decide), rI 70 (by decide), rD 89 (by decide)]; exact o7
    · rw [rD 82 (by decide), rF 83 (by decide)]; exact o8
/-- the reference looks its levels up -/
theorem Rel_79 {f : Int → Int} (h : RlN σ N S) (hf : Ag f (lvC (hI σ 70) (hI σ 72) N) N) : RlN (wI σ 79 f) N S := by
  obtain ⟨hA, hB, hP, hLa, hS, hW, hM, hO⟩ := h
  refine ⟨hA, hB, hP, hLa, hS, hW, hM, fun o => ?_⟩
  obtain ⟨o1, o2, o3, o4, o5, o6, o7, o8⟩ := hO o
  have eo : ords f N = ords (hI σ 79) N := ords_ag (fun k a b => (hf k a b).trans (o3 k a b).symm)
  refine ⟨o1, o2, hf, ?_, ?_, o6, o7, o8⟩
  · obtain ⟨⟨w1, w2, w3, w4, w5, w6, w7⟩, w8, w9⟩ := o4
    refine ⟨⟨w1, w2, w3, fun m x y => ?_, w5, w6, w7⟩, w8, w9⟩
    show -1 ≤ f m ∧ f m ≤ 20
    rw [hf m x y]
    have := lvC_b (kd := hI σ 70) hP.2.2.1 m x y
    omega
  · show Tws σ (hI σ 72) (hD σ 71) (xF (hD σ 71)) (nnR σ) (ords f N) N (hI σ 70, hD σ 71, hI σ 72, hI σ 73, hD σ 76, hD σ 77, hI σ 75, nnR σ, ords f N, N, hI σ 69 13) (hI σ 70, xF (hD σ 71), hI σ 72, hI σ 73, xF (hD σ 76), xF (hD σ 77), hI σ 75, nnR σ, ords f N, N, hI σ 69 13) (tsD σ) (tsF σ)
    rw [eo]
    exact o5
theorem RlN.lev (h : RlN σ N S) : hI σ 3 3 = 0 → LevR σ (hI σ 72) N := h.2.2.2.2.2.2.1.2.2.2.2.1
theorem RlN.l01 (h : RlN σ N S) : hI σ 3 3 = 0 ∨ hI σ 3 3 = 1 := h.1.2.2.2.2.2.2.2.2.1
theorem RlN.pts (h : RlN σ N S) : ∀ m : Int, 0 ≤ m → m < N → inR (hI σ 75 m) := fun m x y => by
  have := h.2.2.1.2.2.2.2.2.1 m x (by have := h.1.1.2.2; omega)
  constructor <;> omega
theorem pr_level {m : Int} (h : Rel σ) (hm : inR m) : PrI mX_level mM_level [vI m] σ := by
  have h0 := h
  obtain ⟨N, S, hN⟩ := h0
  have hA := hN.1
  refine cX_level hA.sz hm hN.ct hN.l01 hN.lev (fun g => ⟨_, rfl, cM_level hA.sc hm hA.1.2.1 hN.2.2.1.2.2.1 (RlN.kd hN) (fun _ => ⟨rfl, h⟩) (fun q => absurd (hA.m.mpr q) g)⟩) (fun g τ F f1 f3 f4 lv => ⟨_, rfl, ?_⟩)
  have hT := Rel_lv hN ⟨F, f1, f3, f4, lv⟩
  have hA2 := hT.1
  refine cM_level hA2.sc hm hA2.1.2.1 hT.2.2.1.2.2.1 (RlN.kd hT) (fun q => absurd (hA2.m.mp ?_) q) (fun q => ⟨?_, N, S, Rel_79 hT (lvs_ag hT.2.2.1.2.2.1)⟩)
  · unfold cM; rw [f1 0 (by decide)]; exact g
  · have e1 : hI τ 70 = hI σ 4 := by rw [F.I (by decide), hN.2.1.1]
    have e2 : hI τ 72 = hI σ 72 := F.I (by decide)
    have g2 := hA.n g
    rw [e1, e2, lvs_ag (kd := hI σ 4) (lv := hI τ 79) (lv' := fun _ => 0) hN.2.2.1.2.2.1 m g2.1 g2.2]
    rfl
theorem pr_check (h : Rel σ) : PrI mX_check mM_check [] σ := by
  obtain ⟨N, S, hN⟩ := h
  have hA := hN.1
  have hB := hN.2.1
  have hpt := RlN.pts hN
  refine cX_check hN.ct (by rw [hB.2.2.2.2.2.2.2.1]; exact hpt) hN.l01 hN.lev (fun τ F f0 f1 f3 f4 lv => ⟨_, rfl, ?_⟩)
  have G : Fq [3, 15, 16, 17, 18] σ (wD (wF (wL (wI τ 0 (hI σ 0)) 0 (hL σ 0)) 0 (hF σ 0)) 0 (hD σ 0)) := by
    refine ⟨fun c hc => ?_, fun k => F.2 k⟩
    by_cases z : c = 0
    · subst z
      exact ⟨rfl, rfl, rfl, rfl⟩
    · obtain ⟨q1, q2, q3, q4⟩ := F.1 c (by simp at hc ⊢; omega)
      refine ⟨?_, ?_, ?_, ?_⟩
      · show hI (wI τ 0 (hI σ 0)) c = _
        rw [hI_wI, if_neg z]; exact q1
      · show hL (wL (wI τ 0 (hI σ 0)) 0 (hL σ 0)) c = _
        rw [hL_wL, if_neg z]; exact q2
      · show hF (wF (wL (wI τ 0 (hI σ 0)) 0 (hL σ 0)) 0 (hF σ 0)) c = _
        rw [hF_wF, if_neg z]; exact q3
      · rw [hD_wD, if_neg z]; exact q4
  have hT := Rel_lv hN ⟨G, f1, f3, f4, lv⟩
  have hT1 : RlA (wI τ 0 (hI σ 0)) N S := hT.1
  have hTB : RlB τ N := hT.2.1
  have hTP : RlP τ N := hT.2.2.1
  have hTL : RlL τ N := hT.2.2.2.1
  have hTS : RlS τ N S := hT.2.2.2.2.1
  have hTW : RlW τ := hT.2.2.2.2.2.1
  have hTM : RlM τ N := hT.2.2.2.2.2.2.1
  have hTO : ¬ hI τ 69 11 = 0 → RlO τ N := hT.2.2.2.2.2.2.2
  have e70 : hI τ 70 = hI σ 4 := by rw [F.I (by decide), hB.1]
  have e72 : hI τ 72 = hI σ 72 := F.I (by decide)
  have e75 : hI τ 75 = hI σ 11 := by rw [F.I (by decide), hB.2.2.2.2.2.2.2.1]
  have n1 : hI τ 69 0 = N := hT1.1.2.1
  refine cM_check (σ := τ) ⟨n1, hA.1.2.2⟩ hTP.2.2.1 (fun m x y => ⟨(hTP.1 m x y).1, ?_⟩) (fun re => ?_)
  · have := hTP.2.2.2.2.2.1 m x (by have := hA.1.2.2; omega)
    constructor <;> omega
  · rw [e70, e72, e75]
    generalize (chk (hI σ 4) (hI σ 72) (hI σ 11) N).2 = b at f0
    refine ⟨rfl, N, S, ?_, hTB, hTP, hTL, hTS, hTW, hTM, hTO⟩
    unfold RlA at hT1 ⊢
    unfold ckH
    simp only [hI_wI] at hT1 ⊢
    simp [fup, f0] at hT1 ⊢
    omega
theorem ct_cnt {f g : Int → Int} : ∀ n : Nat, (∀ k : Int, 0 ≤ k → k < n → f k = g k) → ctN f n = cnt g n
  | 0, _ => rfl
  | n + 1, h => by
    have ih := ct_cnt (f := f) (g := g) n (fun k a b => h k a (by omega))
    show (if f n = -1 then ctN f n else ctN f n + 1) = cnt g n + (if g n = -1 then 0 else 1)
    rw [h n (by omega) (by omega), ih]
    split <;> omega
theorem cnt_tail {g : Int → Int} {a : Nat} : ∀ d : Nat, (∀ k : Int, (a : Int) ≤ k → k < (a : Int) + d → g k = -1) → cnt g (a + d) = cnt g a
  | 0, _ => rfl
  | d + 1, h => by
    have ih := cnt_tail (g := g) (a := a) d (fun k x y => h k x (by omega))
    show cnt g (a + d) + (if g ((a + d : Nat) : Int) = -1 then 0 else 1) = cnt g a
    rw [h _ (by omega) (by omega), if_pos rfl, ih]; omega
theorem pr_count {w : Int} (h : Rel σ) (hw : inR w) : PrI mX_count mM_count [vI w] σ := by
  have h0 := h
  obtain ⟨N, S, hN⟩ := h0
  have hA := hN.1
  obtain ⟨b1, b2, b3, b4, b5, b6, b7, b8, b9, b10, b11⟩ := hN.2.1
  obtain ⟨p1, p2, p3, p4, p5, p6, p7, p8, p9, p10⟩ := hN.2.2.1
  have hLa := hN.2.2.2.1
  have n20 := hA.1.2.2
  have fb : ∀ k : Int, 0 ≤ k → k < 120 → inR (hI σ 72 k) := fun k x y => by
    by_cases c : k < 6 * (N : Int)
    · have := p3 (k / 6) (by omega) (by omega) (k % 6) (by omega) (by omega)
      rw [show 6 * (k / 6) + k % 6 = k by omega] at this
      constructor <;> omega
    · rw [p4 k (by omega) y]; constructor <;> decide
  refine cX_count hw hN.ct hN.l01 hN.lev (fun k x y => by rw [b6 k x (by omega)]; exact fb k x (by omega)) (fun k x y => by rw [(hLa.1 k x (by omega)).1]; exact (hLa.1 k x (by omega)).2) (fun g τ r => ⟨_, rfl, ?_⟩) (fun g => ⟨_, rfl, cM_count ⟨hA.1.2.1, n20⟩ hw p3 (RlN.kd hN) fb (fun k x y => (hLa.1 k x (by omega)).2) (fun q => absurd q g) (fun _ => ⟨?_, h⟩)⟩)
  · have hT := Rel_lv hN r
    have hA2 := hT.1
    obtain ⟨q1, q2, q3, q4, q5, q6, q7, q8, q9, q10⟩ := hT.2.2.1
    have hL2 := hT.2.2.2.1
    have e1 : hI τ 70 = hI σ 4 := by rw [r.1.I (by decide), b1]
    have e2 : hI τ 72 = hI σ 72 := r.1.I (by decide)
    refine cM_count ⟨hA2.1.2.1, n20⟩ hw q3 (RlN.kd hT) (by rw [e2]; exact fb) (fun k x y => (hL2.1 k x (by omega)).2) (fun _ => ⟨?_, N, S, Rel_79 hT (lvs_ag q3)⟩) (fun q => absurd g q)
    rw [e1, e2, gmost_ag N (lvs_ag (kd := hI σ 4) (lv := hI τ 79) (lv' := fun _ => 0) p3)]
    rfl
  · unfold cntA cntC
    have w2 : ctN (hI σ 9) (6 * N) = cnt (hI σ 72) 120 := by
      rw [ct_cnt (g := hI σ 72) (6 * N) (fun k x y => b6 k x (by omega)), ← cnt_tail (a := 6 * N) (120 - 6 * N) (fun k x y => p4 k (by omega) (by omega)), show 6 * N + (120 - 6 * N) = 120 by omega]
    have w4 : ctN (hI σ 20) N = cnt (hI σ 87) N := ct_cnt N (fun k x y => (hLa.1 k x (by omega)).1)
    rw [w2, w4, hA.1.1, hA.1.2.1, hA.2.1.1, hA.2.1.2.1, hA.2.2.2.2.1.2, hA.2.2.2.2.2.1.1, hA.2.2.2.2.2.2.1.1]
theorem wNs_cg {f g : Int64 → Int → Int64} {h : Int64} : ∀ n : Nat, (∀ (k : Nat) (x : Int64), k < n → f x k = g x k) → wNs f h n = wNs g h n
  | 0, _ => rfl
  | n + 1, e => by
    have ih := wNs_cg (f := f) (g := g) (h := h) n (fun k x q => e k x (by omega))
    show f (wNs f h n) n = g (wNs g h n) n
    rw [ih, e n _ (by omega)]
theorem pr_digest (h : Rel σ) : PrL mX_digest mM_digest [] σ := by
  obtain ⟨N, S, hN⟩ := h
  have hc := hN.ct
  obtain ⟨hA, hB, hP, hLa, hS, hW, hM, hO⟩ := hN
  obtain ⟨b1, b2, b3, b4, b5, b6, b7, b8, b9, b10, b11⟩ := hB
  obtain ⟨p1, p2, p3, p4, p5, p6, p7, p8, p9, p10⟩ := hP
  obtain ⟨s1, s2, s3, s4, s5⟩ := hS
  have n20 := hA.1.2.2
  refine cX_digest (rD := hD σ 82) (rF := hF σ 83) hc (by have := hA.2.2.1; constructor <;> omega) (fun g => ?_) ⟨hA.2.1.1, hA.2.1.2.2⟩ (fun s x y => by rw [s2]; exact (s4 s x y).1) ⟨_, rfl, cM_digest ⟨hA.1.2.1, n20⟩ (by have := hA.2.2.1; constructor <;> omega) ⟨hA.2.1.2.1, hA.2.1.2.2⟩ (fun s x y => (s4 s x y).1) (fun k x y => by have := p5 k x y; constructor <;> omega) (fun m x y => ⟨(p1 m x y).2.1, nn_15 (p9 m x (by omega))⟩) (fun _ m x y => ⟨(hM.1.1 m x (by omega)).1.nn (by decide), (hM.1.1 m x (by omega)).2.1.nn (by decide)⟩) s5 (fun d hd => ⟨?_, N, S, hA, ⟨b1, b2, b3, b4, b5, b6, b7, b8, b9, b10, b11⟩, ⟨p1, p2, p3, p4, p5, p6, p7, p8, p9, p10⟩, hLa, ⟨s1, s2, s3, s4, s5⟩, hW, hM, hO⟩)⟩
  · have o := hO (fun q => g (hA.o.mpr q))
    exact ⟨o.2.2.2.2.1.1.2.1, o.2.2.2.2.1.2.1.2.1, o.2.2.2.2.2.2.2⟩
  · rw [hd, b1, b2, b4, b7, s2, s3, hA.2.2.1.1, hA.2.2.2.1.1]
    have e : ∀ (z : Int64), wNs (wMo (hI σ 70) (fun m => (hD σ 71 m).toInt64) (hI σ 72) (hI σ 73) (fun m => (hD σ 74 m).toInt64) (decide (¬ hI σ 69 11 = 0)) (hD σ 82) (hF σ 83) (hI σ 87)) z N = wNs (wMo (hI σ 70) (fun m => (hD σ 71 m).toInt64) (hI σ 72) (hI σ 73) (fun m => (hD σ 74 m).toInt64) (decide (¬ hI σ 69 11 = 0)) (hD σ 82) (hF σ 83) (hI σ 20)) z N := fun z => wNs_cg N (fun k x q => by
      unfold wMo
      rw [(hLa.1 k (by omega) (by omega)).1])
    rw [e]
end RLV
