/-! ===== towards START ===== -/
theorem chk_iff (kd fr np : Int → Int) (N : Nat) : (chk kd fr np N).1 = 0 ↔ fbr kd fr np N = 0 := by
  rw [chk_fbr]
  show (if fbr kd fr np N = 0 then 0 else oI (fnd (brB kd fr np N (fbr kd fr np N)) N 0) + 1) = 0 ↔ _
  by_cases g : fbr kd fr np N = 0
  · rw [if_pos g]; exact ⟨fun _ => g, fun _ => rfl⟩
  · rw [if_neg g]
    refine ⟨fun q => ?_, fun q => absurd q g⟩
    exfalso
    have q : oI (fnd (brB kd fr np N (fbr kd fr np N)) N 0) = -1 := by omega
    unfold fbr at g
    by_cases c1 : oI (fnd (brB kd fr np N 1) N 0) = -1
    · by_cases c2 : oI (fnd (brB kd fr np N 2) N 0) = -1
      · by_cases c3 : oI (fnd (brB kd fr np N 3) N 0) = -1
        · rw [if_pos c1, if_pos c2, if_pos c3] at g; exact g rfl
        · have e : fbr kd fr np N = 3 := by unfold fbr; rw [if_pos c1, if_pos c2, if_neg c3]
          rw [e] at q; exact c3 q
      · have e : fbr kd fr np N = 2 := by unfold fbr; rw [if_pos c1, if_neg c2]
        rw [e] at q; exact c2 q
    · have e : fbr kd fr np N = 1 := by unfold fbr; rw [if_neg c1]
      rw [e] at q; exact c1 q
theorem chk_b (kd fr np : Int → Int) (N : Nat) : 0 ≤ (chk kd fr np N).1 ∧ (chk kd fr np N).1 ≤ N := by
  unfold chk
  cases h1 : fnd (fun m => !hIn kd fr m) N 0 with
  | some x =>
    have := fnd_some _ _ _ h1
    show 0 ≤ 1 + x ∧ 1 + x ≤ N
    omega
  | none =>
    cases h2 : fnd (fun m => decide (kd m = 7) && decide (np m < 2)) N 0 with
    | some x =>
      have := fnd_some _ _ _ h2
      show 0 ≤ 1 + x ∧ 1 + x ≤ N
      omega
    | none =>
      cases h3 : fnd (circ kd fr N) N 0 with
      | some x =>
        have := fnd_some _ _ _ h3
        show 0 ≤ 1 + x ∧ 1 + x ≤ N
        omega
      | none => show (0 : Int) ≤ 0 ∧ (0 : Int) ≤ N; omega
theorem hin_9 {kd fr : Int → Int} {m : Int} (h : hIn kd fr m = true) (k : kd m = 9) : ¬ fr (6 * m + 2) = -1 := by
  unfold hIn at h
  rw [k, if_neg (by decide), if_neg (by decide), if_pos rfl, Bool.and_eq_true] at h
  exact of_decide_eq_true h.2
theorem hin_3 {kd fr : Int → Int} {m : Int} (h : hIn kd fr m = true) (k : kd m = 3) : ¬ fr (6 * m + 0) = -1 ∧ ¬ fr (6 * m + 1) = -1 := by
  unfold hIn at h
  rw [k, if_neg (by decide), if_neg (by decide), if_neg (by decide), if_neg (by decide), Bool.and_eq_true] at h
  exact ⟨of_decide_eq_true h.1, of_decide_eq_true h.2⟩
theorem hin_11 {kd fr : Int → Int} {m : Int} (h : hIn kd fr m = true) (k : kd m = 11) : ¬ fr (6 * m + 0) = -1 := by
  unfold hIn at h
  rw [k, if_neg (by decide), if_pos (by decide)] at h
  exact of_decide_eq_true h
theorem RlN.wp {σ : Hp} {N S : Nat} (h : RlN σ N S) (hk : (chk (hI σ 70) (hI σ 72) (hI σ 75) N).1 = 0) : WP σ N := by
  obtain ⟨hA, hB, ⟨p1, p2, p3, p4, p5, p6, p7, p8, p9, p10⟩, _⟩ := h
  have hN := hA.1.2.2
  obtain ⟨c1, c2, c3⟩ := chk_0 p3 hk
  refine ⟨hA.1.2.1, hN, p3, fun m x y => ⟨⟨⟨x, by omega⟩, fun j j0 j1 => ⟨?_, p5 _ (by omega) (by omega)⟩, (p1 m x y).1, hin_9 (c1 m x y), fun k => ⟨c2 m x y k, (p6 m x (by omega)).2, p7, p8 m x (by omega)⟩, fun k => (set_bdD (p1 m x y).2.1 (p1 m x y).2.2 k).1, (p1 m x y).2.1⟩, ⟨hin_3 (c1 m x y), fun k => ⟨hin_11 (c1 m x y) k, ?_⟩⟩, p9 m x (by omega)⟩⟩
  · have := p3 m x y j j0 j1
    omega
  · have q := (p1 m x y).2.2
    rw [k] at q
    exact (delay_sc (p1 m x y).2.1 q).1
/-- a patch without faults can be worked -/
theorem wo_of {α : Type} {σ : Hp} {N : Nat} {P : Pt α} {lv : Int → Int} (w : WP σ N) (hk : (chk (hI σ 70) (hI σ 72) (hI σ 75) N).1 = 0) (e1 : pK P = hI σ 70) (e2 : pFr P = hI σ 72) (e3 : pN P = N) (e4 : pNn P = nnR σ) (e5 : pOr P = ords lv N) (hl : Ag lv (lvC (hI σ 70) (hI σ 72) N) N) : WO P := by
  obtain ⟨a1, a2, a3, a4⟩ := w
  obtain ⟨c1, c2, c3⟩ := chk_0 a3 hk
  have eo : ords lv N = ords (lvC (hI σ 70) (hI σ 72) N) N := ords_ag hl
  unfold WO
  rw [e1, e2, e3, e4, e5, eo]
  refine ⟨fun m x y => (a4 m x y).1.2.2.1, fun m x y => (a4 m x y).1.2.2.2.1, ords_ord (lvs_J a3).1 a3, fun k x y => ords_mem.mpr ⟨⟨x, y⟩, lvs_all a3 c3 k x y⟩, a3, fun m x y => (a4 m x y).2.1⟩
theorem gread_no {α : Type} {A : Ar α} {E : Ev α} {k : Int} : ∀ (l : List Int) (s : (Int → α) × (Int → Bool)), k ∉ l → (gread A E l s).2 k = s.2 k
  | [], s, _ => rfl
  | m :: l, s, h => by
    have e : gread A E (m :: l) s = gread A E l (gone A E s m) := rfl
    rw [e, gread_no l _ (fun q => h (List.mem_cons_of_mem _ q))]
    show fup s.2 m _ k = s.2 k
    exact fup_n (fun q => h (by rw [q]; exact List.mem_cons_self))
theorem gOrd_lt {kd fr : Int → Int} {N : Nat} : ∀ (L done : List Int), gOrd kd fr N done L → ∀ k ∈ L, 0 ≤ k ∧ k < N
  | [], _, _, k, h => by cases h
  | m :: L, done, ho, k, h => by
    rcases List.mem_cons.mp h with q | q
    · rw [q]; exact ho.1.1
    · exact gOrd_lt L (done ++ [m]) ho.2 k q
section GNO
variable {α : Type} {A : Ar α} {P : Pt α}
theorem gRd_no {row st r : Int → α} {k : Int} (w : WO P) (hk : (pN P : Int) ≤ k) : (gRd A P row st r).2 k = false := by
  unfold gRd
  rw [gread_no (pOr P) _ (fun q => by have := gOrd_lt _ _ w.2.2.1 k q; omega)]
theorem gMb_no {h : α} {bf K : Int → α} {k : Int} (hk : (pN P : Int) ≤ k) : gMb A P h bf K k = false := pw_hi hk
theorem gPh_no {row : Int → α} {h : α} {bf K : Int → α} {x : (Int → α) × (Int → α) × (Int → Bool)} {k : Int} (w : WO P) (hk : (pN P : Int) ≤ k) (hx : x.2.2 k = false) : (gPh A P row h bf K x).2.2 k = false := by
  show (x.2.2 k || gMb A P h bf K k || (gRd A P row (gMs A P h bf K x.2.1) x.1).2 k) = false
  rw [hx, gMb_no hk, gRd_no w hk]; rfl
theorem gMo_no {h : α} {bf K : Int → α} {x : (Int → α) × (Int → α) × (Int → Bool)} {k : Int} (hk : (pN P : Int) ≤ k) (hx : x.2.2 k = false) : (gMo A P h bf K x).2.2 k = false := by
  show (x.2.2 k || gMb A P h bf K k) = false
  rw [hx, gMb_no hk]; rfl
theorem gMid_no {row : Int → α} {h h2 : α} {r st : Int → α} {k : Int} (w : WO P) (hk : (pN P : Int) ≤ k) : (gMid A P row h h2 r st).2.2 k = false := by
  unfold gMid
  by_cases g0 : pRu P = 0
  · rw [if_pos g0]; exact gMo_no hk rfl
  · rw [if_neg g0]
    by_cases g1 : pRu P = 1
    · rw [if_pos g1]; exact gMo_no hk (gPh_no w hk rfl)
    · rw [if_neg g1]; exact gMo_no hk (gPh_no w hk (gPh_no w hk (gPh_no w hk rfl)))
theorem gstep_no {z : Int → α} {h h2 : α} {T : Ts α} {k : Int} (w : WO P) (hk : (pN P : Int) ≤ k) : (gstep A z P h h2 T).2 k = false := by
  unfold gstep
  dsimp only
  rw [gMid_no w hk, gRd_no w hk]; rfl
end GNO
theorem gdf_ok {r a : UInt64} {s : UInt32} (hr : mg r 1024) (hs : mf s 128) (ha : a.toNat < 1030 * 2 ^ 52) : (gdf r s a).toNat < 1030 * 2 ^ 52 := by
  unfold gdf
  by_cases g : FP.dcmp (gap r s) a = some .gt
  · rw [if_pos g]
    have m : mg (gap r s) 1026 := szD_mg (mg_sub hr (f2d_mg hs) (by decide))
    have n1 := (FP.Core.ne_nan (gap r s)).mpr (vn64.mp (m.nn (by decide)))
    have n2 := (FP.Core.ne_nan a).mpr (by omega)
    have g : FP.Core.dcmp (gap r s) a = some .gt := g
    rw [FP.Core.dcmp_gt_key n1 n2] at g
    unfold FP.Core.dkey at g
    unfold mg at m
    rw [if_neg (by omega)] at g
    split at g <;> omega
  · rw [if_neg g]; exact ha
theorem k20_F {σ : Hp} (h : K20 σ) : ∃ rF : Int → UInt32, ∀ k : Int, 0 ≤ k → k < 20 → hD σ 35 k = FP.f2d (rF k) ∧ mf (rF k) 128 := by
  have h1 : ∀ k : Int, ∃ x : UInt32, 0 ≤ k → k < 20 → hD σ 35 k = FP.f2d x ∧ mf x 128 := fun k => by
    by_cases c : 0 ≤ k ∧ k < 20
    · obtain ⟨x, hx⟩ := (h k c.1 c.2).2.1
      exact ⟨x, fun _ _ => hx⟩
    · exact ⟨0, fun a b => absurd ⟨a, b⟩ c⟩
  exact ⟨fun k => Classical.choose (h1 k), fun k => Classical.choose_spec (h1 k)⟩
