/-! ===== a step hangs on the first N places alone ===== -/
section AGR
variable {α : Type}
/-- two rows agree below N -/
abbrev Ag {β : Type} (f g : Int → β) (N : Nat) : Prop := ∀ k : Int, 0 ≤ k → k < N → f k = g k
/-- a patch that can be worked -/
abbrev WO (P : Pt α) : Prop := (∀ m : Int, 0 ≤ m → m < pN P → 0 ≤ pK P m ∧ pK P m < 14) ∧ (∀ m : Int, 0 ≤ m → m < pN P → pK P m = 9 → ¬ pFr P (6 * m + 2) = -1) ∧ gOrd (pK P) (pFr P) (pN P) [] (pOr P) ∧ (∀ k : Int, 0 ≤ k → k < pN P → k ∈ pOr P) ∧ CdN (pFr P) (pN P) ∧ (∀ m : Int, 0 ≤ m → m < pN P → (pK P m = 3 → ¬ pFr P (6 * m + 0) = -1 ∧ ¬ pFr P (6 * m + 1) = -1) ∧ (pK P m = 11 → ¬ pFr P (6 * m + 0) = -1 ∧ 1 ≤ pNn P m ∧ pNn P m ≤ 16))
abbrev XAg (N : Nat) (x y : (Int → α) × (Int → α) × (Int → Bool)) : Prop := Ag x.1 y.1 N ∧ Ag x.2.1 y.2.1 N ∧ x.2.2 = y.2.2
abbrev TAg (P : Pt α) (T T' : Ts α) : Prop := Ag T.1 T'.1 (pN P) ∧ Ag T.2.1 T'.2.1 (pN P) ∧ Ag T.2.2.1 T'.2.2.1 (16 * pN P) ∧ ∀ m : Int, 0 ≤ m → m < pN P → pK P m = 13 → T.2.2.2 m = T'.2.2.2 m
theorem gRd_ag {A : Ar α} {P : Pt α} {row row' st st' r r' : Int → α} (w : WO P) (hrow : ∀ m : Int, 0 ≤ m → m < pN P → row (16 * m) = row' (16 * m)) (hst : Ag st st' (pN P)) : Ag (gRd A P row st r).1 (gRd A P row' st' r').1 (pN P) ∧ (gRd A P row st r).2 = (gRd A P row' st' r').2 := by
  obtain ⟨w1, w2, w3, w4, w5, w6⟩ := w
  have h := gread_ind (A := A) (kd := pK P) (fr := pFr P) (N := pN P) (tu := P.2.2.2.1) (np := P.2.2.2.2.2.2.1) (xs := P.2.2.2.2.1) (ys := P.2.2.2.2.2.1) (se := P.2.1) (se' := P.2.1) (row := row) (row' := row') (st := st) (st' := st') w1 (fun _ _ _ => rfl) (fun m a b _ => hrow m a b) hst w2 (pOr P) [] (r, fun _ => false) (r', fun _ => false) w3 (fun k hk => by cases hk) rfl
  exact ⟨fun k a b => h.1 k (w4 k a b), h.2⟩
theorem gK_ag {A : Ar α} {P : Pt α} {r r' : Int → α} (w : WO P) (h : Ag r r' (pN P)) : Ag (gK A P r) (gK A P r') (pN P) := fun m a b => by
  have e := gsum_cg (A := A) (fr := pFr P) (tu := pTu P) (r := r) (r' := r') (m := m) 6 (fun j hj q => by
    have := w.2.2.2.2.1 m a b j (by omega) (by omega)
    exact h _ (by omega) (by omega))
  unfold gK gra
  rw [e]
theorem gMs_ag {A : Ar α} {P : Pt α} {h : α} {bf bf' K K' st st' : Int → α} (h1 : Ag bf bf' (pN P)) (h2 : Ag K K' (pN P)) (h3 : Ag st st' (pN P)) : Ag (gMs A P h bf K st) (gMs A P h bf' K' st') (pN P) := fun m a b => by
  unfold gMs
  rw [pw_lo a b, pw_lo a b]
  unfold gmvS gmv
  rw [h1 m a b, h2 m a b, h3 m a b]
theorem gMb_ag {A : Ar α} {P : Pt α} {h : α} {bf bf' K K' : Int → α} (h1 : Ag bf bf' (pN P)) (h2 : Ag K K' (pN P)) : gMb A P h bf K = gMb A P h bf' K' := mvB_cg (fun m a b _ => ⟨h1 m a b, h2 m a b⟩)
theorem gPh_ag {A : Ar α} {P : Pt α} {row row' : Int → α} {h : α} {bf bf' K K' : Int → α} {x x' : (Int → α) × (Int → α) × (Int → Bool)} (w : WO P) (hrow : ∀ m : Int, 0 ≤ m → m < pN P → row (16 * m) = row' (16 * m)) (h1 : Ag bf bf' (pN P)) (h2 : Ag K K' (pN P)) (hx : XAg (pN P) x x') : XAg (pN P) (gPh A P row h bf K x) (gPh A P row' h bf' K' x') := by
  have s := gMs_ag (A := A) (h := h) h1 h2 hx.2.1
  have q := gRd_ag (A := A) (r := x.1) (r' := x'.1) w hrow s
  refine ⟨q.1, s, ?_⟩
  unfold gPh
  dsimp only
  rw [hx.2.2, gMb_ag h1 h2, q.2]
theorem gMo_ag {A : Ar α} {P : Pt α} {h : α} {bf bf' K K' : Int → α} {x x' : (Int → α) × (Int → α) × (Int → Bool)} (h1 : Ag bf bf' (pN P)) (h2 : Ag K K' (pN P)) (hx : XAg (pN P) x x') : XAg (pN P) (gMo A P h bf K x) (gMo A P h bf' K' x') := by
  refine ⟨hx.1, gMs_ag (A := A) (h := h) h1 h2 hx.2.1, ?_⟩
  unfold gMo
  dsimp only
  rw [hx.2.2, gMb_ag h1 h2]
theorem gR1_ag {A : Ar α} {P : Pt α} {row row' : Int → α} {h h2 : α} {st st' K K' : Int → α} {x x' : (Int → α) × (Int → α) × (Int → Bool)} (w : WO P) (hrow : ∀ m : Int, 0 ≤ m → m < pN P → row (16 * m) = row' (16 * m)) (h1 : Ag st st' (pN P)) (hK : Ag K K' (pN P)) (hx : XAg (pN P) x x') : XAg (pN P) (gR1 A P row h h2 st K x) (gR1 A P row' h h2 st' K' x') := by
  have p := gPh_ag (A := A) (h := h) w hrow h1 hK hx
  exact gMo_ag h1 (fun m a b => by rw [hK m a b, gK_ag w p.1 m a b]) p
theorem gR2_ag {A : Ar α} {P : Pt α} {row row' : Int → α} {h h2 : α} {st st' K K' : Int → α} {x x' : (Int → α) × (Int → α) × (Int → Bool)} (w : WO P) (hrow : ∀ m : Int, 0 ≤ m → m < pN P → row (16 * m) = row' (16 * m)) (h1 : Ag st st' (pN P)) (hK : Ag K K' (pN P)) (hx : XAg (pN P) x x') : XAg (pN P) (gR2 A P row h h2 st K x) (gR2 A P row' h h2 st' K' x') := by
  unfold gR2
  dsimp only
  have p2 := gPh_ag (A := A) (h := h2) w hrow h1 hK hx
  generalize gPh A P row h2 st K x = y2 at p2 ⊢
  generalize gPh A P row' h2 st' K' x' = z2 at p2 ⊢
  have k2 := gK_ag (A := A) w p2.1
  have p3 := gPh_ag (A := A) (h := h2) w hrow h1 k2 p2
  generalize gK A P y2.1 = K2 at k2 p3 ⊢
  generalize gK A P z2.1 = L2 at k2 p3 ⊢
  generalize gPh A P row h2 st K2 y2 = y3 at p3 ⊢
  generalize gPh A P row' h2 st' L2 z2 = z3 at p3 ⊢
  have k3 := gK_ag (A := A) w p3.1
  have p4 := gPh_ag (A := A) (h := h) w hrow h1 k3 p3
  generalize gK A P y3.1 = K3 at k3 p4 ⊢
  generalize gK A P z3.1 = L3 at k3 p4 ⊢
  generalize gPh A P row h st K3 y3 = y4 at p4 ⊢
  generalize gPh A P row' h st' L3 z3 = z4 at p4 ⊢
  exact gMo_ag h1 (fun m a b => by rw [hK m a b, k2 m a b, k3 m a b, gK_ag w p4.1 m a b]) p4
theorem gMid_ag {A : Ar α} {P : Pt α} {row row' : Int → α} {h h2 : α} {r r' st st' : Int → α} (w : WO P) (hrow : ∀ m : Int, 0 ≤ m → m < pN P → row (16 * m) = row' (16 * m)) (hr : Ag r r' (pN P)) (h1 : Ag st st' (pN P)) : XAg (pN P) (gMid A P row h h2 r st) (gMid A P row' h h2 r' st') := by
  have k := gK_ag (A := A) w hr
  have x : XAg (pN P) (r, st, fun _ => false) (r', st', fun _ => false) := ⟨hr, h1, rfl⟩
  unfold gMid
  by_cases g0 : pRu P = 0
  · rw [if_pos g0, if_pos g0]; exact gMo_ag h1 k x
  · rw [if_neg g0, if_neg g0]
    by_cases g1 : pRu P = 1
    · rw [if_pos g1, if_pos g1]; exact gR1_ag w hrow h1 k x
    · rw [if_neg g1, if_neg g1]; exact gR2_ag w hrow h1 k x
theorem gnx_ag {A : Ar α} {P : Pt α} {r r' st st' : Int → α} (w : WO P) (hr : Ag r r' (pN P)) (h1 : Ag st st' (pN P)) : ∀ m : Int, 0 ≤ m → m < pN P → pK P m = 3 ∨ pK P m = 11 → gnx A (pK P) (pFr P) (pTu P) r st m = gnx A (pK P) (pFr P) (pTu P) r' st' m := fun m a b c => by
  have hin : ∀ i : Int, 0 ≤ i → i < 6 → ¬ pFr P (6 * m + i) = -1 → gin A (pFr P) (pTu P) r m i = gin A (pFr P) (pTu P) r' m i := fun i i0 i1 q => by
    have := w.2.2.2.2.1 m a b i i0 i1
    unfold gin
    rw [hr _ (by omega) (by omega)]
  unfold gnx
  rcases c with c | c
  · obtain ⟨q0, q1⟩ := (w.2.2.2.2.2 m a b).1 c
    rw [if_pos c, if_pos c, hin 1 (by omega) (by omega) q1, hin 0 (by omega) (by omega) q0, h1 m a b]
  · have n3 : ¬ pK P m = 3 := by omega
    rw [if_neg n3, if_neg n3, hin 0 (by omega) (by omega) ((w.2.2.2.2.2 m a b).2 c).1]
theorem gstep_ag {A : Ar α} {z : Int → α} {P : Pt α} {h h2 : α} {T T' : Ts α} (w : WO P) (t : TAg P T T') : TAg P (gstep A z P h h2 T).1 (gstep A z P h h2 T').1 ∧ (gstep A z P h h2 T).2 = (gstep A z P h h2 T').2 := by
  obtain ⟨t1, t2, t3, t4⟩ := t
  have hrow : ∀ m : Int, 0 ≤ m → m < pN P → T.2.2.1 (16 * m) = T'.2.2.1 (16 * m) := fun m a b => t3 _ (by omega) (by omega)
  have y := gMid_ag (A := A) (h := h) (h2 := h2) w hrow t1 t2
  have nx := gnx_ag (A := A) w t1 t2
  have sdm : ∀ m : Int, 0 ≤ m → m < pN P → pK P m = 13 → sdS (pK P) T.2.2.2 m = sdS (pK P) T'.2.2.2 m := fun m a b c => by
    unfold sdS; rw [if_pos c, if_pos c, t4 m a b c]
  unfold gstep
  dsimp only
  generalize gMid A P T.2.2.1 h h2 T.1 T.2.1 = u at y ⊢
  generalize gMid A P T'.2.2.1 h h2 T'.1 T'.2.1 = v at y ⊢
  generalize gnx A (pK P) (pFr P) (pTu P) T.1 T.2.1 = n1 at nx ⊢
  generalize gnx A (pK P) (pFr P) (pTu P) T'.1 T'.2.1 = n2 at nx ⊢
  have st : Ag (pw u.2.1 (othS (pK P) n1 u.2.1 (fun m => z (sdS (pK P) T.2.2.2 m))) (pN P)) (pw v.2.1 (othS (pK P) n2 v.2.1 (fun m => z (sdS (pK P) T'.2.2.2 m))) (pN P)) (pN P) := fun m a b => by
    rw [pw_lo a b, pw_lo a b]
    unfold othS
    by_cases c : pK P m = 3
    · rw [if_pos c, if_pos c, nx m a b (Or.inl c)]
    · rw [if_neg c, if_neg c]
      by_cases d : pK P m = 13
      · rw [if_pos d, if_pos d]; exact congrArg z (sdm m a b d)
      · rw [if_neg d, if_neg d]; exact y.2.1 m a b
  have row : Ag (pw T.2.2.1 (rowS (pK P) (pNn P) T.2.2.1 n1) (16 * pN P)) (pw T'.2.2.1 (rowS (pK P) (pNn P) T'.2.2.1 n2) (16 * pN P)) (16 * pN P) := fun j a b => by
    rw [pw_lo a b, pw_lo a b]
    unfold rowS
    by_cases c : pK P (j / 16) = 11
    · have hn := ((w.2.2.2.2.2 (j / 16) (by omega) (by omega)).2 c).2
      rw [if_pos c, if_pos c]
      unfold shf
      by_cases g1 : 16 * (j / 16) ≤ j ∧ j < 16 * (j / 16) + pNn P (j / 16) - 1
      · rw [if_pos g1, if_pos g1]; exact t3 (j + 1) (by omega) (by omega)
      · rw [if_neg g1, if_neg g1]
        by_cases g2 : j = 16 * (j / 16) + pNn P (j / 16) - 1
        · rw [if_pos g2, if_pos g2]; exact nx (j / 16) (by omega) (by omega) (Or.inr c)
        · rw [if_neg g2, if_neg g2]; exact t3 j a b
    · rw [if_neg c, if_neg c]; exact t3 j a b
  have q := gRd_ag (A := A) (r := u.1) (r' := v.1) w (fun m a b => row (16 * m) (by omega) (by omega)) st
  refine ⟨⟨q.1, st, row, fun m a b c => ?_⟩, ?_⟩
  · show pw T.2.2.2 (sdS (pK P) T.2.2.2) (pN P) m = pw T'.2.2.2 (sdS (pK P) T'.2.2.2) (pN P) m
    rw [pw_lo a b, pw_lo a b]; exact sdm m a b c
  · rw [y.2.2, q.2]
theorem gsn_ag {A : Ar α} {z : Int → α} {P : Pt α} {h h2 : α} {T T' : Ts α} (w : WO P) (t : TAg P T T') : ∀ n : Nat, TAg P (gsn A z P h h2 T n) (gsn A z P h h2 T' n)
  | 0 => t
  | n + 1 => (gstep_ag w (gsn_ag w t n)).1
end AGR
