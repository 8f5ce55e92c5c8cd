/-! ===== the class's twins: reading all, sums, moving ===== -/
section TWC5
variable {σ : Hp} {Q : Option PV → Hp → Prop}
theorem rtd_step {a a' : Int → UInt64} {l l1 l2 : Int → Int} : wD (wI (wI (wI (wD σ 22 a) 20 l) 20 l1) 20 l2) 22 a' = wI (wD σ 22 a') 20 l2 := by
  show (up1 (up1 (up1 σ.1 20 l) 20 l1) 20 l2, σ.2.1, σ.2.2.1, up1 (up1 σ.2.2.2 22 a) 22 a') = (up1 σ.1 20 l2, σ.2.1, σ.2.2.1, up1 σ.2.2.2 22 a')
  simp only [up1_up1]
theorem k20d {b : Hp} {a : Int → UInt64} {q : Int → UInt64} {N : Nat} (ha : ∀ k : Int, 0 ≤ k → k < N → a k = cvD (q k) ∧ BdD (q k)) (ht : ∀ k : Int, (N : Int) ≤ k → a k = hD b 22 k) : K20 b → K20 (wD b 22 a) := fun z k k0 k1 => by
  have h := z k k0 k1
  by_cases g : k < N
  · obtain ⟨e, f⟩ := ha k k0 g
    exact ⟨(by show (a k).toNat % _ < _; rw [e]; exact f), h.2⟩
  · have e := ht k (by omega)
    exact ⟨(by show (a k).toNat % _ < _; rw [e]; exact h.1), h.2⟩
theorem gaft_bdd {x : UInt64} (h : vf_n64 x) : BdD (gaft arD x).1 := (gaft_okD h).mg
theorem cTd_readAll {fr : Int → Int} {se row st r : Int → UInt64} {N : Nat} {L : List Int} (hc : CtI σ fr N) (hfl : hI σ 21 3 = 0) (hr : Rdd σ r N) (hM : ∀ m : Int, 0 ≤ m → m < N → Mod σ fr se row st m) (hl : (∀ m : Int, 0 ≤ m → m < N → inR (hI σ 20 m)) ∧ inR (hI σ 19 1)) (hL : hI σ 15 3 = L.length ∧ L.length ≤ 20 ∧ (∀ i : Nat, ∀ x : Int, L[i]? = some x → hI σ 17 i = x ∧ 0 ≤ x ∧ x < N))
    (hQ : ∀ a, (∀ k : Int, 0 ≤ k → k < N → a k = cvD ((gread arD (Ecd σ fr se row st) L (r, fun _ => false)).1 k) ∧ BdD ((gread arD (Ecd σ fr se row st) L (r, fun _ => false)).1 k)) → (∀ k : Int, (N : Int) ≤ k → a k = hD σ 22 k) → Q none (wI (wD σ 22 a) 20 (lms (hI σ 20) (hI σ 19 1) (gread arD (Ecd σ fr se row st) L (r, fun _ => false)).2))) : Sp mT_readAll [vR 21] σ Q := by
  obtain ⟨l1, l2, l3⟩ := hL
  have hN2 := hc.2.1
  have loop : ∀ (rest done : List Int), L = done ++ rest → ∀ a, (∀ k : Int, 0 ≤ k → k < N → a k = cvD ((gread arD (Ecd σ fr se row st) done (r, fun _ => false)).1 k) ∧ BdD ((gread arD (Ecd σ fr se row st) done (r, fun _ => false)).1 k)) → (∀ k : Int, (N : Int) ≤ k → a k = hD σ 22 k) → J mT_readAll 2 [(0, vR 21), (1, vI done.length)] [] (wI (wD σ 22 a) 20 (lms (hI σ 20) (hI σ 19 1) (gread arD (Ecd σ fr se row st) done (r, fun _ => false)).2)) Q := by
    intro rest
    induction rest with
    | nil =>
      intro done e a ha hta
      rw [List.append_nil] at e
      subst e
      have eo : hI (wI (wD σ 22 a) 20 (lms (hI σ 20) (hI σ 19 1) (gread arD (Ecd σ fr se row st) L (r, fun _ => false)).2)) 15 3 = L.length := l1
      refine j_iload_n (p2 := 3) dT_readAll_2 rfl rfl ?_
      refine j_aload_n (p2 := 4) dT_readAll_3 rfl rfl ?_
      refine j_getR (p2 := 7) dT_readAll_4 rfl fa_T_53 ly_21 rfl ?_
      refine j_getIk (p2 := 10) dT_readAll_7 rfl fa_T_142 ly_15 rfl (ki := 3) rfl ?_
      refine j_icmp_ge (p2 := 13) (tg := 45) dT_readAll_10 rfl (by decide) (by constructor <;> omega) (by rw [eo]; constructor <;> omega) (fun h10 => ?_) (fun h10 => ?_)
      · refine j_return dT_readAll_45 rfl (by exact hQ a ha hta)
      · refine J.loc (lv' := [(0, _), (1, _)]) ⟨rfl, rfl, trivial⟩ ?_
        exfalso
        rw [eo] at h10
        omega
    | cons m rest ih =>
      intro done e a ha hta
      have hlen : L.length = done.length + (rest.length + 1) := by rw [e, List.length_append, List.length_cons]
      have hget : L[done.length]? = some m := by rw [e, List.getElem?_append_right (Nat.le_refl _), Nat.sub_self]; rfl
      obtain ⟨o1, o2, o3⟩ := l3 done.length m hget
      have ih2 := ih (done ++ [m]) (by rw [e, List.append_assoc]; rfl)
      rw [gread_app] at ih2
      obtain ⟨G, hG⟩ : ∃ G, G = gread arD (Ecd σ fr se row st) done (r, fun _ => false) := ⟨_, rfl⟩
      rw [← hG] at ha ih2 ⊢
      obtain ⟨τ, hτ⟩ : ∃ τ, τ = wI (wD σ 22 a) 20 (lms (hI σ 20) (hI σ 19 1) G.2) := ⟨_, rfl⟩
      have eo : hI τ 15 3 = L.length := by rw [hτ]; exact l1
      have e17 : hI τ 17 done.length = m := by rw [hτ]; exact o1
      have hcτ : CtI τ fr N := by rw [hτ]; exact hc
      have hflτ : hI τ 21 3 = 0 := by rw [hτ]; exact hfl
      have hrτ : Rdd τ G.1 N := by rw [hτ]; exact ha
      have hMτ : Mod τ fr se row st m := by rw [hτ]; exact hM m o2 o3
      have hlτ : inR (hI τ 20 m) := by rw [hτ]; exact lms_inR (hl.1 m o2 o3) hl.2
      have hEτ : Ecd τ fr se row st = Ecd σ fr se row st := by rw [hτ]; rfl
      have elm : hI τ 20 = lms (hI σ 20) (hI σ 19 1) G.2 := by rw [hτ]; rfl
      have elo : hI τ 19 1 = hI σ 19 1 := by rw [hτ]; rfl
      have ea : hD τ 22 = a := by rw [hτ]; rfl
      rw [← hτ]
      have fin : ∀ nx : vf_n64 (gmE arD (Ecd τ fr se row st) G.1 m).1, J mT_readAll 2 [(0, vR 21), (1, vI (done.length + 1))] [] (wD (wI (wI τ 20 (lmp (hI τ 20) m (hI τ 19 1) (gmE arD (Ecd τ fr se row st) G.1 m).2)) 20 (lmp (lmp (hI τ 20) m (hI τ 19 1) (gmE arD (Ecd τ fr se row st) G.1 m).2) m (hI τ 19 1) (gaft arD (gmE arD (Ecd τ fr se row st) G.1 m).1).2)) 22 (fup (hD τ 22) m (cvD (gaft arD (gmE arD (Ecd τ fr se row st) G.1 m).1).1))) Q := by
        intro nx
        have bd := gaft_bdd nx
        rw [elm, elo, ea]
        rw [hEτ] at bd ⊢
        have ih3 := ih2 (fup a m (cvD (gaft arD (gmE arD (Ecd σ fr se row st) G.1 m).1).1)) (fun k k0 k1 => by
          show fup a m _ k = cvD (fup G.1 m _ k) ∧ BdD (fup G.1 m _ k)
          unfold fup
          by_cases hk : k = m
          · rw [if_pos hk, if_pos hk]; exact ⟨rfl, bd⟩
          · rw [if_neg hk, if_neg hk]; exact ha k k0 k1) (fun k k0 => by rw [fup_n (by omega)]; exact hta k k0)
        rw [List.length_append] at ih3
        refine ih3.hp ?_
        have eB : ∀ (f1 f2 : Bool), fup G.2 m (G.2 m || f1 || f2) = fup (fup G.2 m (G.2 m || f1)) m (fup G.2 m (G.2 m || f1) m || f2) := fun f1 f2 => by
          rw [fup_s]
          funext k
          unfold fup
          by_cases hk : k = m
          · rw [if_pos hk, if_pos hk]
          · rw [if_neg hk, if_neg hk, if_neg hk]
        rw [hτ, rtd_step, lmp_lms, lmp_lms, ← eB]
        unfold gone
        with_reducible rfl
      refine j_iload_n (p2 := 3) dT_readAll_2 rfl rfl ?_
      refine j_aload_n (p2 := 4) dT_readAll_3 rfl rfl ?_
      refine j_getR (p2 := 7) dT_readAll_4 rfl fa_T_53 ly_21 rfl ?_
      refine j_getIk (p2 := 10) dT_readAll_7 rfl fa_T_142 ly_15 rfl (ki := 3) rfl ?_
      refine j_icmp_ge (p2 := 13) (tg := 45) dT_readAll_10 rfl (by decide) (by constructor <;> omega) (by rw [eo]; constructor <;> omega) (fun h10 => ?_) (fun h10 => ?_)
      · refine j_return dT_readAll_45 rfl (by exfalso; rw [eo] at h10; omega)
      · refine j_aload_n (p2 := 14) dT_readAll_13 rfl rfl ?_
        refine j_getR (p2 := 17) dT_readAll_14 rfl fa_T_53 ly_21 rfl ?_
        refine j_getR (p2 := 20) dT_readAll_17 rfl fa_T_147 ly_15 rfl ?_
        refine j_iload_n (p2 := 21) dT_readAll_20 rfl rfl ?_
        refine j_iald (p2 := 22) dT_readAll_21 rfl ly_17 (by decide) (by omega) (by omega) ?_
        refine j_istore_n (p2 := 23) (lv' := [(0, _), (1, _), (2, _)]) dT_readAll_22 rfl (Nat.le_of_ble_eq_true rfl) ⟨rfl, rfl, rfl, trivial⟩ ?_
        refine j_aload_n (p2 := 24) dT_readAll_23 rfl rfl ?_
        refine j_getR (p2 := 27) dT_readAll_24 rfl fa_T_9 ly_21 rfl ?_
        refine j_iload_n (p2 := 28) dT_readAll_27 rfl rfl ?_
        refine j_aload_n (p2 := 29) dT_readAll_28 rfl rfl ?_
        refine j_iload_n (p2 := 30) dT_readAll_29 rfl rfl ?_
        refine j_aload_n (p2 := 31) dT_readAll_30 rfl rfl ?_
        refine j_iload_n (p2 := 32) dT_readAll_31 rfl rfl ?_
        refine j_callV (m' := mT_plainReading) (As := [_]) (p2 := 35) dT_readAll_32 rfl ml_T_150 ok_mT_plainReading im_mT_plainReading se_mT_plainReading rfl rfl (Nat.le_of_ble_eq_true rfl) ly_21 rfl (Nat.le_of_ble_eq_true rfl) ⟨(Nat.le_of_ble_eq_true rfl), (Nat.le_of_ble_eq_true rfl)⟩ ?_
        rw [e17]
        refine cTd_plainReading hcτ hflτ ⟨o2, o3⟩ hrτ hMτ hlτ (fun v hv nx => ?_)
        refine j_callV (m' := mT_after) (As := [_, _]) (p2 := 38) dT_readAll_35 rfl ml_T_126 ok_mT_after im_mT_after se_mT_after rfl rfl (Nat.le_of_ble_eq_true rfl) ly_21 rfl (Nat.le_of_ble_eq_true rfl) ⟨(Nat.le_of_ble_eq_true rfl), (Nat.le_of_ble_eq_true rfl)⟩ ?_
        refine cTd_after nx hv (by omega) (lmp_inR hlτ (by rw [elo]; exact hl.2)) ?_
        refine j_dastk (p2 := 39) dT_readAll_38 rfl ly_22 (by decide) (by omega) (by omega) ?_
        refine j_iinc (p2 := 42) (lv' := [(0, _), (1, _)]) dT_readAll_39 rfl (Nat.le_of_ble_eq_true rfl) rfl ⟨rfl, rfl, trivial⟩ ?_
        refine j_goto (p2 := 2) dT_readAll_42 (by decide) ?_
        refine J.loc (lv' := [(0, _), (1, _)]) ⟨rfl, rfl, trivial⟩ ?_
        exact fin nx
  have start := loop L [] rfl (hD σ 22) hr (fun _ _ => rfl)
  have e0 : wI (wD σ 22 (hD σ 22)) 20 (lms (hI σ 20) (hI σ 19 1) (gread arD (Ecd σ fr se row st) [] (r, fun _ => false)).2) = σ := by
    show wI (wD σ 22 (hD σ 22)) 20 (lms (hI σ 20) (hI σ 19 1) (fun _ => false)) = σ
    rw [lms_0, wD_id, wI_id]
  rw [e0] at start
  refine j_iconst (p2 := 1) dT_readAll_0 rfl ?_
  refine j_istore_n (p2 := 2) (lv' := [(0, _), (1, _)]) dT_readAll_1 rfl (Nat.le_of_ble_eq_true rfl) ⟨rfl, rfl, trivial⟩ ?_
  refine J.loc (lv' := [(0, _), (1, _)]) ⟨rfl, rfl, trivial⟩ ?_
  exact start
theorem rtf_step {a a' : Int → UInt64} {l l1 l2 : Int → Int} : wD (wI (wI (wI (wD σ 35 a) 20 l) 20 l1) 20 l2) 35 a' = wI (wD σ 35 a') 20 l2 := by
  show (up1 (up1 (up1 σ.1 20 l) 20 l1) 20 l2, σ.2.1, σ.2.2.1, up1 (up1 σ.2.2.2 35 a) 35 a') = (up1 σ.1 20 l2, σ.2.1, σ.2.2.1, up1 σ.2.2.2 35 a')
  simp only [up1_up1]
theorem k20f {b : Hp} {a : Int → UInt64} {q : Int → UInt32} {N : Nat} (ha : ∀ k : Int, 0 ≤ k → k < N → a k = cvF (q k) ∧ BdF (q k)) (ht : ∀ k : Int, (N : Int) ≤ k → a k = hD b 35 k) : K20 b → K20 (wD b 35 a) := fun z k k0 k1 => by
  have h := z k k0 k1
  by_cases g : k < N
  · obtain ⟨e, f⟩ := ha k k0 g
    exact ⟨h.1, ⟨q k, e, f⟩, h.2.2⟩
  · have e := ht k (by omega)
    exact ⟨h.1, (by show ∃ x : UInt32, a k = FP.f2d x ∧ _; rw [e]; exact h.2.1), h.2.2⟩
theorem gaft_bdf {x : UInt32} (h : vf_n32 x) : BdF (gaft arF x).1 := (gaft_okF h).mf
theorem cTf_readAll {fr : Int → Int} {se row st r : Int → UInt32} {N : Nat} {L : List Int} (hc : CtI σ fr N) (hfl : hI σ 34 3 = 1) (hr : Rdf σ r N) (hM : ∀ m : Int, 0 ≤ m → m < N → Mof σ fr se row st m) (hl : (∀ m : Int, 0 ≤ m → m < N → inR (hI σ 20 m)) ∧ inR (hI σ 19 1)) (hL : hI σ 15 3 = L.length ∧ L.length ≤ 20 ∧ (∀ i : Nat, ∀ x : Int, L[i]? = some x → hI σ 17 i = x ∧ 0 ≤ x ∧ x < N))
    (hQ : ∀ a, (∀ k : Int, 0 ≤ k → k < N → a k = cvF ((gread arF (Ecf σ fr se row st) L (r, fun _ => false)).1 k) ∧ BdF ((gread arF (Ecf σ fr se row st) L (r, fun _ => false)).1 k)) → (∀ k : Int, (N : Int) ≤ k → a k = hD σ 35 k) → Q none (wI (wD σ 35 a) 20 (lms (hI σ 20) (hI σ 19 1) (gread arF (Ecf σ fr se row st) L (r, fun _ => false)).2))) : Sp mT_readAll [vR 34] σ Q := by
  obtain ⟨l1, l2, l3⟩ := hL
  have hN2 := hc.2.1
  have loop : ∀ (rest done : List Int), L = done ++ rest → ∀ a, (∀ k : Int, 0 ≤ k → k < N → a k = cvF ((gread arF (Ecf σ fr se row st) done (r, fun _ => false)).1 k) ∧ BdF ((gread arF (Ecf σ fr se row st) done (r, fun _ => false)).1 k)) → (∀ k : Int, (N : Int) ≤ k → a k = hD σ 35 k) → J mT_readAll 2 [(0, vR 34), (1, vI done.length)] [] (wI (wD σ 35 a) 20 (lms (hI σ 20) (hI σ 19 1) (gread arF (Ecf σ fr se row st) done (r, fun _ => false)).2)) Q := by
    intro rest
    induction rest with
    | nil =>
      intro done e a ha hta
      rw [List.append_nil] at e
      subst e
      have eo : hI (wI (wD σ 35 a) 20 (lms (hI σ 20) (hI σ 19 1) (gread arF (Ecf σ fr se row st) L (r, fun _ => false)).2)) 15 3 = L.length := l1
      refine j_iload_n (p2 := 3) dT_readAll_2 rfl rfl ?_
      refine j_aload_n (p2 := 4) dT_readAll_3 rfl rfl ?_
      refine j_getR (p2 := 7) dT_readAll_4 rfl fa_T_53 ly_34 rfl ?_
      refine j_getIk (p2 := 10) dT_readAll_7 rfl fa_T_142 ly_15 rfl (ki := 3) rfl ?_
      refine j_icmp_ge (p2 := 13) (tg := 45) dT_readAll_10 rfl (by decide) (by constructor <;> omega) (by rw [eo]; constructor <;> omega) (fun h10 => ?_) (fun h10 => ?_)
      · refine j_return dT_readAll_45 rfl (by exact hQ a ha hta)
      · refine J.loc (lv' := [(0, _), (1, _)]) ⟨rfl, rfl, trivial⟩ ?_
        exfalso
        rw [eo] at h10
        omega
    | cons m rest ih =>
      intro done e a ha hta
      have hlen : L.length = done.length + (rest.length + 1) := by rw [e, List.length_append, List.length_cons]
      have hget : L[done.length]? = some m := by rw [e, List.getElem?_append_right (Nat.le_refl _), Nat.sub_self]; rfl
      obtain ⟨o1, o2, o3⟩ := l3 done.length m hget
      have ih2 := ih (done ++ [m]) (by rw [e, List.append_assoc]; rfl)
      rw [gread_app] at ih2
      obtain ⟨G, hG⟩ : ∃ G, G = gread arF (Ecf σ fr se row st) done (r, fun _ => false) := ⟨_, rfl⟩
      rw [← hG] at ha ih2 ⊢
      obtain ⟨τ, hτ⟩ : ∃ τ, τ = wI (wD σ 35 a) 20 (lms (hI σ 20) (hI σ 19 1) G.2) := ⟨_, rfl⟩
      have eo : hI τ 15 3 = L.length := by rw [hτ]; exact l1
      have e17 : hI τ 17 done.length = m := by rw [hτ]; exact o1
      have hcτ : CtI τ fr N := by rw [hτ]; exact hc
      have hflτ : hI τ 34 3 = 1 := by rw [hτ]; exact hfl
      have hrτ : Rdf τ G.1 N := by rw [hτ]; exact ha
      have hMτ : Mof τ fr se row st m := by rw [hτ]; exact hM m o2 o3
      have hlτ : inR (hI τ 20 m) := by rw [hτ]; exact lms_inR (hl.1 m o2 o3) hl.2
      have hEτ : Ecf τ fr se row st = Ecf σ fr se row st := by rw [hτ]; rfl
      have elm : hI τ 20 = lms (hI σ 20) (hI σ 19 1) G.2 := by rw [hτ]; rfl
      have elo : hI τ 19 1 = hI σ 19 1 := by rw [hτ]; rfl
      have ea : hD τ 35 = a := by rw [hτ]; rfl
      rw [← hτ]
      have fin : ∀ nx : vf_n32 (gmE arF (Ecf τ fr se row st) G.1 m).1, J mT_readAll 2 [(0, vR 34), (1, vI (done.length + 1))] [] (wD (wI (wI τ 20 (lmp (hI τ 20) m (hI τ 19 1) (gmE arF (Ecf τ fr se row st) G.1 m).2)) 20 (lmp (lmp (hI τ 20) m (hI τ 19 1) (gmE arF (Ecf τ fr se row st) G.1 m).2) m (hI τ 19 1) (gaft arF (gmE arF (Ecf τ fr se row st) G.1 m).1).2)) 35 (fup (hD τ 35) m (cvF (gaft arF (gmE arF (Ecf τ fr se row st) G.1 m).1).1))) Q := by
        intro nx
        have bd := gaft_bdf nx
        rw [elm, elo, ea]
        rw [hEτ] at bd ⊢
        have ih3 := ih2 (fup a m (cvF (gaft arF (gmE arF (Ecf σ fr se row st) G.1 m).1).1)) (fun k k0 k1 => by
          show fup a m _ k = cvF (fup G.1 m _ k) ∧ BdF (fup G.1 m _ k)
          unfold fup
          by_cases hk : k = m
          · rw [if_pos hk, if_pos hk]; exact ⟨rfl, bd⟩
          · rw [if_neg hk, if_neg hk]; exact ha k k0 k1) (fun k k0 => by rw [fup_n (by omega)]; exact hta k k0)
        rw [List.length_append] at ih3
        refine ih3.hp ?_
        have eB : ∀ (f1 f2 : Bool), fup G.2 m (G.2 m || f1 || f2) = fup (fup G.2 m (G.2 m || f1)) m (fup G.2 m (G.2 m || f1) m || f2) := fun f1 f2 => by
          rw [fup_s]
          funext k
          unfold fup
          by_cases hk : k = m
          · rw [if_pos hk, if_pos hk]
          · rw [if_neg hk, if_neg hk, if_neg hk]
        rw [hτ, rtf_step, lmp_lms, lmp_lms, ← eB]
        unfold gone
        with_reducible rfl
      refine j_iload_n (p2 := 3) dT_readAll_2 rfl rfl ?_
      refine j_aload_n (p2 := 4) dT_readAll_3 rfl rfl ?_
      refine j_getR (p2 := 7) dT_readAll_4 rfl fa_T_53 ly_34 rfl ?_
      refine j_getIk (p2 := 10) dT_readAll_7 rfl fa_T_142 ly_15 rfl (ki := 3) rfl ?_
      refine j_icmp_ge (p2 := 13) (tg := 45) dT_readAll_10 rfl (by decide) (by constructor <;> omega) (by rw [eo]; constructor <;> omega) (fun h10 => ?_) (fun h10 => ?_)
      · refine j_return dT_readAll_45 rfl (by exfalso; rw [eo] at h10; omega)
      · refine j_aload_n (p2 := 14) dT_readAll_13 rfl rfl ?_
        refine j_getR (p2 := 17) dT_readAll_14 rfl fa_T_53 ly_34 rfl ?_
        refine j_getR (p2 := 20) dT_readAll_17 rfl fa_T_147 ly_15 rfl ?_
        refine j_iload_n (p2 := 21) dT_readAll_20 rfl rfl ?_
        refine j_iald (p2 := 22) dT_readAll_21 rfl ly_17 (by decide) (by omega) (by omega) ?_
        refine j_istore_n (p2 := 23) (lv' := [(0, _), (1, _), (2, _)]) dT_readAll_22 rfl (Nat.le_of_ble_eq_true rfl) ⟨rfl, rfl, rfl, trivial⟩ ?_
        refine j_aload_n (p2 := 24) dT_readAll_23 rfl rfl ?_
        refine j_getR (p2 := 27) dT_readAll_24 rfl fa_T_9 ly_34 rfl ?_
        refine j_iload_n (p2 := 28) dT_readAll_27 rfl rfl ?_
        refine j_aload_n (p2 := 29) dT_readAll_28 rfl rfl ?_
        refine j_iload_n (p2 := 30) dT_readAll_29 rfl rfl ?_
        refine j_aload_n (p2 := 31) dT_readAll_30 rfl rfl ?_
        refine j_iload_n (p2 := 32) dT_readAll_31 rfl rfl ?_
        refine j_callV (m' := mT_plainReading) (As := [_]) (p2 := 35) dT_readAll_32 rfl ml_T_150 ok_mT_plainReading im_mT_plainReading se_mT_plainReading rfl rfl (Nat.le_of_ble_eq_true rfl) ly_34 rfl (Nat.le_of_ble_eq_true rfl) ⟨(Nat.le_of_ble_eq_true rfl), (Nat.le_of_ble_eq_true rfl)⟩ ?_
        rw [e17]
        refine cTf_plainReading hcτ hflτ ⟨o2, o3⟩ hrτ hMτ hlτ (fun v hv nx => ?_)
        refine j_callV (m' := mT_after) (As := [_, _]) (p2 := 38) dT_readAll_35 rfl ml_T_126 ok_mT_after im_mT_after se_mT_after rfl rfl (Nat.le_of_ble_eq_true rfl) ly_34 rfl (Nat.le_of_ble_eq_true rfl) ⟨(Nat.le_of_ble_eq_true rfl), (Nat.le_of_ble_eq_true rfl)⟩ ?_
        refine cTf_after nx hv (by omega) (lmp_inR hlτ (by rw [elo]; exact hl.2)) ?_
        refine j_dastk (p2 := 39) dT_readAll_38 rfl ly_35 (by decide) (by omega) (by omega) ?_
        refine j_iinc (p2 := 42) (lv' := [(0, _), (1, _)]) dT_readAll_39 rfl (Nat.le_of_ble_eq_true rfl) rfl ⟨rfl, rfl, trivial⟩ ?_
        refine j_goto (p2 := 2) dT_readAll_42 (by decide) ?_
        refine J.loc (lv' := [(0, _), (1, _)]) ⟨rfl, rfl, trivial⟩ ?_
        exact fin nx
  have start := loop L [] rfl (hD σ 35) hr (fun _ _ => rfl)
  have e0 : wI (wD σ 35 (hD σ 35)) 20 (lms (hI σ 20) (hI σ 19 1) (gread arF (Ecf σ fr se row st) [] (r, fun _ => false)).2) = σ := by
    show wI (wD σ 35 (hD σ 35)) 20 (lms (hI σ 20) (hI σ 19 1) (fun _ => false)) = σ
    rw [lms_0, wD_id, wI_id]
  rw [e0] at start
  refine j_iconst (p2 := 1) dT_readAll_0 rfl ?_
  refine j_istore_n (p2 := 2) (lv' := [(0, _), (1, _)]) dT_readAll_1 rfl (Nat.le_of_ble_eq_true rfl) ⟨rfl, rfl, trivial⟩ ?_
  refine J.loc (lv' := [(0, _), (1, _)]) ⟨rfl, rfl, trivial⟩ ?_
  exact start
theorem rtt_step {a a' : Int → UInt64} {l l1 l2 : Int → Int} : wD (wI (wI (wI (wD σ 57 a) 55 l) 55 l1) 55 l2) 57 a' = wI (wD σ 57 a') 55 l2 := by
  show (up1 (up1 (up1 σ.1 55 l) 55 l1) 55 l2, σ.2.1, σ.2.2.1, up1 (up1 σ.2.2.2 57 a) 57 a') = (up1 σ.1 55 l2, σ.2.1, σ.2.2.1, up1 σ.2.2.2 57 a')
  simp only [up1_up1]
theorem k20t {b : Hp} {a : Int → UInt64} {q : Int → UInt64} {N : Nat} (ha : ∀ k : Int, 0 ≤ k → k < N → a k = cvD (q k) ∧ BdD (q k)) (ht : ∀ k : Int, (N : Int) ≤ k → a k = hD b 57 k) : K20 b → K20 (wD b 57 a) := fun z k k0 k1 => by
  have h := z k k0 k1
  by_cases g : k < N
  · obtain ⟨e, f⟩ := ha k k0 g
    exact ⟨h.1, h.2.1, (by show (a k).toNat % _ < _; rw [e]; exact f)⟩
  · have e := ht k (by omega)
    exact ⟨h.1, h.2.1, (by show (a k).toNat % _ < _; rw [e]; exact h.2.2)⟩
theorem gaft_bdt {x : UInt64} (h : vf_n64 x) : BdD (gaft arD x).1 := (gaft_okD h).mg
theorem cTt_readAll {fr : Int → Int} {se row st r : Int → UInt64} {N : Nat} {L : List Int} (hc : CtI σ fr N) (hfl : hI σ 56 3 = 0) (hr : Rdt σ r N) (hM : ∀ m : Int, 0 ≤ m → m < N → Mot σ fr se row st m) (hl : (∀ m : Int, 0 ≤ m → m < N → inR (hI σ 55 m)) ∧ inR (hI σ 54 1)) (hL : hI σ 15 3 = L.length ∧ L.length ≤ 20 ∧ (∀ i : Nat, ∀ x : Int, L[i]? = some x → hI σ 17 i = x ∧ 0 ≤ x ∧ x < N))
    (hQ : ∀ a, (∀ k : Int, 0 ≤ k → k < N → a k = cvD ((gread arD (Ect σ fr se row st) L (r, fun _ => false)).1 k) ∧ BdD ((gread arD (Ect σ fr se row st) L (r, fun _ => false)).1 k)) → (∀ k : Int, (N : Int) ≤ k → a k = hD σ 57 k) → Q none (wI (wD σ 57 a) 55 (lms (hI σ 55) (hI σ 54 1) (gread arD (Ect σ fr se row st) L (r, fun _ => false)).2))) : Sp mT_readAll [vR 56] σ Q := by
  obtain ⟨l1, l2, l3⟩ := hL
  have hN2 := hc.2.1
  have loop : ∀ (rest done : List Int), L = done ++ rest → ∀ a, (∀ k : Int, 0 ≤ k → k < N → a k = cvD ((gread arD (Ect σ fr se row st) done (r, fun _ => false)).1 k) ∧ BdD ((gread arD (Ect σ fr se row st) done (r, fun _ => false)).1 k)) → (∀ k : Int, (N : Int) ≤ k → a k = hD σ 57 k) → J mT_readAll 2 [(0, vR 56), (1, vI done.length)] [] (wI (wD σ 57 a) 55 (lms (hI σ 55) (hI σ 54 1) (gread arD (Ect σ fr se row st) done (r, fun _ => false)).2)) Q := by
    intro rest
    induction rest with
    | nil =>
      intro done e a ha hta
      rw [List.append_nil] at e
      subst e
      have eo : hI (wI (wD σ 57 a) 55 (lms (hI σ 55) (hI σ 54 1) (gread arD (Ect σ fr se row st) L (r, fun _ => false)).2)) 15 3 = L.length := l1
      refine j_iload_n (p2 := 3) dT_readAll_2 rfl rfl ?_
      refine j_aload_n (p2 := 4) dT_readAll_3 rfl rfl ?_
      refine j_getR (p2 := 7) dT_readAll_4 rfl fa_T_53 ly_56 rfl ?_
      refine j_getIk (p2 := 10) dT_readAll_7 rfl fa_T_142 ly_15 rfl (ki := 3) rfl ?_
      refine j_icmp_ge (p2 := 13) (tg := 45) dT_readAll_10 rfl (by decide) (by constructor <;> omega) (by rw [eo]; constructor <;> omega) (fun h10 => ?_) (fun h10 => ?_)
      · refine j_return dT_readAll_45 rfl (by exact hQ a ha hta)
      · refine J.loc (lv' := [(0, _), (1, _)]) ⟨rfl, rfl, trivial⟩ ?_
        exfalso
        rw [eo] at h10
        omega
    | cons m rest ih =>
      intro done e a ha hta
      have hlen : L.length = done.length + (rest.length + 1) := by rw [e, List.length_append, List.length_cons]
      have hget : L[done.length]? = some m := by rw [e, List.getElem?_append_right (Nat.le_refl _), Nat.sub_self]; rfl
      obtain ⟨o1, o2, o3⟩ := l3 done.length m hget
      have ih2 := ih (done ++ [m]) (by rw [e, List.append_assoc]; rfl)
      rw [gread_app] at ih2
      obtain ⟨G, hG⟩ : ∃ G, G = gread arD (Ect σ fr se row st) done (r, fun _ => false) := ⟨_, rfl⟩
      rw [← hG] at ha ih2 ⊢
      obtain ⟨τ, hτ⟩ : ∃ τ, τ = wI (wD σ 57 a) 55 (lms (hI σ 55) (hI σ 54 1) G.2) := ⟨_, rfl⟩
      have eo : hI τ 15 3 = L.length := by rw [hτ]; exact l1
      have e17 : hI τ 17 done.length = m := by rw [hτ]; exact o1
      have hcτ : CtI τ fr N := by rw [hτ]; exact hc
      have hflτ : hI τ 56 3 = 0 := by rw [hτ]; exact hfl
      have hrτ : Rdt τ G.1 N := by rw [hτ]; exact ha
      have hMτ : Mot τ fr se row st m := by rw [hτ]; exact hM m o2 o3
      have hlτ : inR (hI τ 55 m) := by rw [hτ]; exact lms_inR (hl.1 m o2 o3) hl.2
      have hEτ : Ect τ fr se row st = Ect σ fr se row st := by rw [hτ]; rfl
      have elm : hI τ 55 = lms (hI σ 55) (hI σ 54 1) G.2 := by rw [hτ]; rfl
      have elo : hI τ 54 1 = hI σ 54 1 := by rw [hτ]; rfl
      have ea : hD τ 57 = a := by rw [hτ]; rfl
      rw [← hτ]
      have fin : ∀ nx : vf_n64 (gmE arD (Ect τ fr se row st) G.1 m).1, J mT_readAll 2 [(0, vR 56), (1, vI (done.length + 1))] [] (wD (wI (wI τ 55 (lmp (hI τ 55) m (hI τ 54 1) (gmE arD (Ect τ fr se row st) G.1 m).2)) 55 (lmp (lmp (hI τ 55) m (hI τ 54 1) (gmE arD (Ect τ fr se row st) G.1 m).2) m (hI τ 54 1) (gaft arD (gmE arD (Ect τ fr se row st) G.1 m).1).2)) 57 (fup (hD τ 57) m (cvD (gaft arD (gmE arD (Ect τ fr se row st) G.1 m).1).1))) Q := by
        intro nx
        have bd := gaft_bdt nx
        rw [elm, elo, ea]
        rw [hEτ] at bd ⊢
        have ih3 := ih2 (fup a m (cvD (gaft arD (gmE arD (Ect σ fr se row st) G.1 m).1).1)) (fun k k0 k1 => by
          show fup a m _ k = cvD (fup G.1 m _ k) ∧ BdD (fup G.1 m _ k)
          unfold fup
          by_cases hk : k = m
          · rw [if_pos hk, if_pos hk]; exact ⟨rfl, bd⟩
          · rw [if_neg hk, if_neg hk]; exact ha k k0 k1) (fun k k0 => by rw [fup_n (by omega)]; exact hta k k0)
        rw [List.length_append] at ih3
        refine ih3.hp ?_
        have eB : ∀ (f1 f2 : Bool), fup G.2 m (G.2 m || f1 || f2) = fup (fup G.2 m (G.2 m || f1)) m (fup G.2 m (G.2 m || f1) m || f2) := fun f1 f2 => by
          rw [fup_s]
          funext k
          unfold fup
          by_cases hk : k = m
          · rw [if_pos hk, if_pos hk]
          · rw [if_neg hk, if_neg hk, if_neg hk]
        rw [hτ, rtt_step, lmp_lms, lmp_lms, ← eB]
        unfold gone
        with_reducible rfl
      refine j_iload_n (p2 := 3) dT_readAll_2 rfl rfl ?_
      refine j_aload_n (p2 := 4) dT_readAll_3 rfl rfl ?_
      refine j_getR (p2 := 7) dT_readAll_4 rfl fa_T_53 ly_56 rfl ?_
      refine j_getIk (p2 := 10) dT_readAll_7 rfl fa_T_142 ly_15 rfl (ki := 3) rfl ?_
      refine j_icmp_ge (p2 := 13) (tg := 45) dT_readAll_10 rfl (by decide) (by constructor <;> omega) (by rw [eo]; constructor <;> omega) (fun h10 => ?_) (fun h10 => ?_)
      · refine j_return dT_readAll_45 rfl (by exfalso; rw [eo] at h10; omega)
      · refine j_aload_n (p2 := 14) dT_readAll_13 rfl rfl ?_
        refine j_getR (p2 := 17) dT_readAll_14 rfl fa_T_53 ly_56 rfl ?_
        refine j_getR (p2 := 20) dT_readAll_17 rfl fa_T_147 ly_15 rfl ?_
        refine j_iload_n (p2 := 21) dT_readAll_20 rfl rfl ?_
        refine j_iald (p2 := 22) dT_readAll_21 rfl ly_17 (by decide) (by omega) (by omega) ?_
        refine j_istore_n (p2 := 23) (lv' := [(0, _), (1, _), (2, _)]) dT_readAll_22 rfl (Nat.le_of_ble_eq_true rfl) ⟨rfl, rfl, rfl, trivial⟩ ?_
        refine j_aload_n (p2 := 24) dT_readAll_23 rfl rfl ?_
        refine j_getR (p2 := 27) dT_readAll_24 rfl fa_T_9 ly_56 rfl ?_
        refine j_iload_n (p2 := 28) dT_readAll_27 rfl rfl ?_
        refine j_aload_n (p2 := 29) dT_readAll_28 rfl rfl ?_
        refine j_iload_n (p2 := 30) dT_readAll_29 rfl rfl ?_
        refine j_aload_n (p2 := 31) dT_readAll_30 rfl rfl ?_
        refine j_iload_n (p2 := 32) dT_readAll_31 rfl rfl ?_
        refine j_callV (m' := mT_plainReading) (As := [_]) (p2 := 35) dT_readAll_32 rfl ml_T_150 ok_mT_plainReading im_mT_plainReading se_mT_plainReading rfl rfl (Nat.le_of_ble_eq_true rfl) ly_56 rfl (Nat.le_of_ble_eq_true rfl) ⟨(Nat.le_of_ble_eq_true rfl), (Nat.le_of_ble_eq_true rfl)⟩ ?_
        rw [e17]
        refine cTt_plainReading hcτ hflτ ⟨o2, o3⟩ hrτ hMτ hlτ (fun v hv nx => ?_)
        refine j_callV (m' := mT_after) (As := [_, _]) (p2 := 38) dT_readAll_35 rfl ml_T_126 ok_mT_after im_mT_after se_mT_after rfl rfl (Nat.le_of_ble_eq_true rfl) ly_56 rfl (Nat.le_of_ble_eq_true rfl) ⟨(Nat.le_of_ble_eq_true rfl), (Nat.le_of_ble_eq_true rfl)⟩ ?_
        refine cTt_after nx hv (by omega) (lmp_inR hlτ (by rw [elo]; exact hl.2)) ?_
        refine j_dastk (p2 := 39) dT_readAll_38 rfl ly_57 (by decide) (by omega) (by omega) ?_
        refine j_iinc (p2 := 42) (lv' := [(0, _), (1, _)]) dT_readAll_39 rfl (Nat.le_of_ble_eq_true rfl) rfl ⟨rfl, rfl, trivial⟩ ?_
        refine j_goto (p2 := 2) dT_readAll_42 (by decide) ?_
        refine J.loc (lv' := [(0, _), (1, _)]) ⟨rfl, rfl, trivial⟩ ?_
        exact fin nx
  have start := loop L [] rfl (hD σ 57) hr (fun _ _ => rfl)
  have e0 : wI (wD σ 57 (hD σ 57)) 55 (lms (hI σ 55) (hI σ 54 1) (gread arD (Ect σ fr se row st) [] (r, fun _ => false)).2) = σ := by
    show wI (wD σ 57 (hD σ 57)) 55 (lms (hI σ 55) (hI σ 54 1) (fun _ => false)) = σ
    rw [lms_0, wD_id, wI_id]
  rw [e0] at start
  refine j_iconst (p2 := 1) dT_readAll_0 rfl ?_
  refine j_istore_n (p2 := 2) (lv' := [(0, _), (1, _)]) dT_readAll_1 rfl (Nat.le_of_ble_eq_true rfl) ⟨rfl, rfl, trivial⟩ ?_
  refine J.loc (lv' := [(0, _), (1, _)]) ⟨rfl, rfl, trivial⟩ ?_
  exact start
theorem cTd_sumsInto_k1 {fr : Int → Int} {r : Int → UInt64} {N : Nat} (hc : CtI σ fr N) (hfl : hI σ 21 3 = 0) (hr : Rdd σ r N) (hQ : ∀ a, (∀ m : Int, 0 ≤ m → m < N → hI σ 4 m = 2 → a m = cvD (gra arD fr (hI σ 10) r m)) → Q none (wD σ 30 a)) : Sp mT_sumsInto [vR 21, vR 30] σ Q := by
  have hN := hc.1
  have hN2 := hc.2.1
  have loop : ∀ (n i : Nat), i ≤ N → N + 1 ≤ i + n → ∀ a, (∀ m : Int, 0 ≤ m → m < i → hI σ 4 m = 2 → a m = cvD (gra arD fr (hI σ 10) r m)) → J mT_sumsInto 2 [(0, vR 21), (1, vR 30), (2, vI i)] [] (wD σ 30 a) Q := by
    intro n
    induction n with
    | zero => intro i h1 h2; exact absurd h2 (by omega)
    | succ n ih =>
      intro i h1 h2 a ha
      have eN : hI (wD σ 30 a) 3 0 = N := hN
      have eK : hI (wD σ 30 a) 4 = hI σ 4 := rfl
      have kb : i < N → 0 ≤ hI σ 4 i ∧ hI σ 4 i < 14 := fun h => hc.2.2.1 i (by omega) (by omega)
      have no : i < N → ¬ hI σ 4 i = 2 → J mT_sumsInto 2 [(0, vR 21), (1, vR 30), (2, vI (i + 1))] [] (wD σ 30 a) Q := fun h g => ih (i + 1) (by omega) (by omega) a (fun m x y z => by
        by_cases e : m = i
        · subst e; exact absurd z g
        · exact ha m x (by omega) z)
      have yes : i < N → hI σ 4 i = 2 → J mT_sumsInto 2 [(0, vR 21), (1, vR 30), (2, vI (i + 1))] [] (wD (wD σ 30 a) 30 (fup (hD (wD σ 30 a) 30) i (cvD (gsum arD fr (hI σ 10) r i 6).1))) Q := fun h g => by
        rw [wD_wD]
        refine ih (i + 1) (by omega) (by omega) _ (fun m x y z => ?_)
        show fup a i _ m = _
        by_cases e : m = i
        · subst e; rw [fup_s]; rfl
        · rw [fup_n e]; exact ha m x (by omega) z
      refine j_iload_n (p2 := 3) dT_sumsInto_2 rfl rfl ?_
      refine j_aload_n (p2 := 4) dT_sumsInto_3 rfl rfl ?_
      refine j_getR (p2 := 7) dT_sumsInto_4 rfl fa_T_49 ly_21 rfl ?_
      refine j_getIk (p2 := 10) dT_sumsInto_7 rfl fa_T_65 ly_3 rfl (ki := 0) rfl ?_
      refine j_icmp_ge (p2 := 13) (tg := 40) dT_sumsInto_10 rfl (by decide) (by constructor <;> omega) (by rw [eN]; constructor <;> omega) (fun h10 => ?_) (fun h10 => ?_)
      · refine j_return dT_sumsInto_40 rfl (by rw [eN] at h10; have e : i = N := (by omega); subst e; exact hQ a ha)
      · refine j_aload_n (p2 := 14) dT_sumsInto_13 rfl rfl ?_
        refine j_getR (p2 := 17) dT_sumsInto_14 rfl fa_T_49 ly_21 rfl ?_
        refine j_getR (p2 := 20) dT_sumsInto_17 rfl fa_T_119 ly_3 rfl ?_
        refine j_iload_n (p2 := 21) dT_sumsInto_20 rfl rfl ?_
        refine j_iald (p2 := 22) dT_sumsInto_21 rfl ly_4 (by decide) (by omega) (by rw [eN] at h10; omega) ?_
        refine j_iconst (p2 := 23) dT_sumsInto_22 rfl ?_
        refine j_icmp_ne (p2 := 26) (tg := 34) dT_sumsInto_23 rfl (by decide) (by rw [eN] at h10; rw [eK]; have := kb (by omega); constructor <;> omega) (by constructor <;> omega) (fun h23 => ?_) (fun h23 => ?_)
        · refine j_iinc (p2 := 37) (lv' := [(0, _), (1, _), (2, _)]) dT_sumsInto_34 rfl (Nat.le_of_ble_eq_true rfl) rfl ⟨rfl, rfl, rfl, trivial⟩ ?_
          refine j_goto (p2 := 2) dT_sumsInto_37 (by decide) ?_
          refine J.loc (lv' := [(0, _), (1, _), (2, _)]) ⟨rfl, rfl, rfl, trivial⟩ ?_
          first
            | (have g : hI σ 4 i = 2 := h23
               exact yes (by omega) g)
            | (have g : ¬ hI σ 4 i = 2 := h23
               rw [eN] at h10
               exact no (by omega) g)
        · refine j_aload_n (p2 := 27) dT_sumsInto_26 rfl rfl ?_
          refine j_iload_n (p2 := 28) dT_sumsInto_27 rfl rfl ?_
          refine j_aload_n (p2 := 29) dT_sumsInto_28 rfl rfl ?_
          refine j_iload_n (p2 := 30) dT_sumsInto_29 rfl rfl ?_
          refine j_callV (m' := mT_inputSum) (As := [_]) (p2 := 33) dT_sumsInto_30 rfl ml_T_122 ok_mT_inputSum im_mT_inputSum se_mT_inputSum rfl rfl (Nat.le_of_ble_eq_true rfl) ly_21 rfl (Nat.le_of_ble_eq_true rfl) ⟨(Nat.le_of_ble_eq_true rfl), (Nat.le_of_ble_eq_true rfl)⟩ ?_
          rw [eN] at h10
          rw [eK] at h23
          refine cTd_inputSum (σ := wD σ 30 a) hc hfl (by omega) hr ?_
          refine j_dastk (p2 := 34) dT_sumsInto_33 rfl ly_30 (by decide) (by omega) (by omega) ?_
          refine j_iinc (p2 := 37) (lv' := [(0, _), (1, _), (2, _)]) dT_sumsInto_34 rfl (Nat.le_of_ble_eq_true rfl) rfl ⟨rfl, rfl, rfl, trivial⟩ ?_
          refine j_goto (p2 := 2) dT_sumsInto_37 (by decide) ?_
          refine J.loc (lv' := [(0, _), (1, _), (2, _)]) ⟨rfl, rfl, rfl, trivial⟩ ?_
          first
            | (have g : hI σ 4 i = 2 := h23
               exact yes (by omega) g)
            | (have g : ¬ hI σ 4 i = 2 := h23
               rw [eN] at h10
               exact no (by omega) g)
  refine j_iconst (p2 := 1) dT_sumsInto_0 rfl ?_
  refine j_istore_n (p2 := 2) (lv' := [(0, _), (1, _), (2, _)]) dT_sumsInto_1 rfl (Nat.le_of_ble_eq_true rfl) ⟨rfl, rfl, rfl, trivial⟩ ?_
  refine J.loc (lv' := [(0, _), (1, _), (2, _)]) ⟨rfl, rfl, rfl, trivial⟩ ?_
  have := loop (N + 1) 0 (by omega) (by omega) (hD σ 30) (fun m x y => absurd y (by omega))
  rw [wD_id] at this
  exact this
theorem cTd_sumsInto_k2 {fr : Int → Int} {r : Int → UInt64} {N : Nat} (hc : CtI σ fr N) (hfl : hI σ 21 3 = 0) (hr : Rdd σ r N) (hQ : ∀ a, (∀ m : Int, 0 ≤ m → m < N → hI σ 4 m = 2 → a m = cvD (gra arD fr (hI σ 10) r m)) → Q none (wD σ 31 a)) : Sp mT_sumsInto [vR 21, vR 31] σ Q := by
  have hN := hc.1
  have hN2 := hc.2.1
  have loop : ∀ (n i : Nat), i ≤ N → N + 1 ≤ i + n → ∀ a, (∀ m : Int, 0 ≤ m → m < i → hI σ 4 m = 2 → a m = cvD (gra arD fr (hI σ 10) r m)) → J mT_sumsInto 2 [(0, vR 21), (1, vR 31), (2, vI i)] [] (wD σ 31 a) Q := by
    intro n
    induction n with
    | zero => intro i h1 h2; exact absurd h2 (by omega)
    | succ n ih =>
      intro i h1 h2 a ha
      have eN : hI (wD σ 31 a) 3 0 = N := hN
      have eK : hI (wD σ 31 a) 4 = hI σ 4 := rfl
      have kb : i < N → 0 ≤ hI σ 4 i ∧ hI σ 4 i < 14 := fun h => hc.2.2.1 i (by omega) (by omega)
      have no : i < N → ¬ hI σ 4 i = 2 → J mT_sumsInto 2 [(0, vR 21), (1, vR 31), (2, vI (i + 1))] [] (wD σ 31 a) Q := fun h g => ih (i + 1) (by omega) (by omega) a (fun m x y z => by
        by_cases e : m = i
        · subst e; exact absurd z g
        · exact ha m x (by omega) z)
      have yes : i < N → hI σ 4 i = 2 → J mT_sumsInto 2 [(0, vR 21), (1, vR 31), (2, vI (i + 1))] [] (wD (wD σ 31 a) 31 (fup (hD (wD σ 31 a) 31) i (cvD (gsum arD fr (hI σ 10) r i 6).1))) Q := fun h g => by
        rw [wD_wD]
        refine ih (i + 1) (by omega) (by omega) _ (fun m x y z => ?_)
        show fup a i _ m = _
        by_cases e : m = i
        · subst e; rw [fup_s]; rfl
        · rw [fup_n e]; exact ha m x (by omega) z
      refine j_iload_n (p2 := 3) dT_sumsInto_2 rfl rfl ?_
      refine j_aload_n (p2 := 4) dT_sumsInto_3 rfl rfl ?_
      refine j_getR (p2 := 7) dT_sumsInto_4 rfl fa_T_49 ly_21 rfl ?_
      refine j_getIk (p2 := 10) dT_sumsInto_7 rfl fa_T_65 ly_3 rfl (ki := 0) rfl ?_
      refine j_icmp_ge (p2 := 13) (tg := 40) dT_sumsInto_10 rfl (by decide) (by constructor <;> omega) (by rw [eN]; constructor <;> omega) (fun h10 => ?_) (fun h10 => ?_)
      · refine j_return dT_sumsInto_40 rfl (by rw [eN] at h10; have e : i = N := (by omega); subst e; exact hQ a ha)
      · refine j_aload_n (p2 := 14) dT_sumsInto_13 rfl rfl ?_
        refine j_getR (p2 := 17) dT_sumsInto_14 rfl fa_T_49 ly_21 rfl ?_
        refine j_getR (p2 := 20) dT_sumsInto_17 rfl fa_T_119 ly_3 rfl ?_
        refine j_iload_n (p2 := 21) dT_sumsInto_20 rfl rfl ?_
        refine j_iald (p2 := 22) dT_sumsInto_21 rfl ly_4 (by decide) (by omega) (by rw [eN] at h10; omega) ?_
        refine j_iconst (p2 := 23) dT_sumsInto_22 rfl ?_
        refine j_icmp_ne (p2 := 26) (tg := 34) dT_sumsInto_23 rfl (by decide) (by rw [eN] at h10; rw [eK]; have := kb (by omega); constructor <;> omega) (by constructor <;> omega) (fun h23 => ?_) (fun h23 => ?_)
        · refine j_iinc (p2 := 37) (lv' := [(0, _), (1, _), (2, _)]) dT_sumsInto_34 rfl (Nat.le_of_ble_eq_true rfl) rfl ⟨rfl, rfl, rfl, trivial⟩ ?_
          refine j_goto (p2 := 2) dT_sumsInto_37 (by decide) ?_
          refine J.loc (lv' := [(0, _), (1, _), (2, _)]) ⟨rfl, rfl, rfl, trivial⟩ ?_
          first
            | (have g : hI σ 4 i = 2 := h23
               exact yes (by omega) g)
            | (have g : ¬ hI σ 4 i = 2 := h23
               rw [eN] at h10
               exact no (by omega) g)
        · refine j_aload_n (p2 := 27) dT_sumsInto_26 rfl rfl ?_
          refine j_iload_n (p2 := 28) dT_sumsInto_27 rfl rfl ?_
          refine j_aload_n (p2 := 29) dT_sumsInto_28 rfl rfl ?_
          refine j_iload_n (p2 := 30) dT_sumsInto_29 rfl rfl ?_
          refine j_callV (m' := mT_inputSum) (As := [_]) (p2 := 33) dT_sumsInto_30 rfl ml_T_122 ok_mT_inputSum im_mT_inputSum se_mT_inputSum rfl rfl (Nat.le_of_ble_eq_true rfl) ly_21 rfl (Nat.le_of_ble_eq_true rfl) ⟨(Nat.le_of_ble_eq_true rfl), (Nat.le_of_ble_eq_true rfl)⟩ ?_
          rw [eN] at h10
          rw [eK] at h23
          refine cTd_inputSum (σ := wD σ 31 a) hc hfl (by omega) hr ?_
          refine j_dastk (p2 := 34) dT_sumsInto_33 rfl ly_31 (by decide) (by omega) (by omega) ?_
          refine j_iinc (p2 := 37) (lv' := [(0, _), (1, _), (2, _)]) dT_sumsInto_34 rfl (Nat.le_of_ble_eq_true rfl) rfl ⟨rfl, rfl, rfl, trivial⟩ ?_
          refine j_goto (p2 := 2) dT_sumsInto_37 (by decide) ?_
          refine J.loc (lv' := [(0, _), (1, _), (2, _)]) ⟨rfl, rfl, rfl, trivial⟩ ?_
          first
            | (have g : hI σ 4 i = 2 := h23
               exact yes (by omega) g)
            | (have g : ¬ hI σ 4 i = 2 := h23
               rw [eN] at h10
               exact no (by omega) g)
  refine j_iconst (p2 := 1) dT_sumsInto_0 rfl ?_
  refine j_istore_n (p2 := 2) (lv' := [(0, _), (1, _), (2, _)]) dT_sumsInto_1 rfl (Nat.le_of_ble_eq_true rfl) ⟨rfl, rfl, rfl, trivial⟩ ?_
  refine J.loc (lv' := [(0, _), (1, _), (2, _)]) ⟨rfl, rfl, rfl, trivial⟩ ?_
  have := loop (N + 1) 0 (by omega) (by omega) (hD σ 31) (fun m x y => absurd y (by omega))
  rw [wD_id] at this
  exact this
theorem cTd_sumsInto_k3 {fr : Int → Int} {r : Int → UInt64} {N : Nat} (hc : CtI σ fr N) (hfl : hI σ 21 3 = 0) (hr : Rdd σ r N) (hQ : ∀ a, (∀ m : Int, 0 ≤ m → m < N → hI σ 4 m = 2 → a m = cvD (gra arD fr (hI σ 10) r m)) → Q none (wD σ 32 a)) : Sp mT_sumsInto [vR 21, vR 32] σ Q := by
  have hN := hc.1
  have hN2 := hc.2.1
  have loop : ∀ (n i : Nat), i ≤ N → N + 1 ≤ i + n → ∀ a, (∀ m : Int, 0 ≤ m → m < i → hI σ 4 m = 2 → a m = cvD (gra arD fr (hI σ 10) r m)) → J mT_sumsInto 2 [(0, vR 21), (1, vR 32), (2, vI i)] [] (wD σ 32 a) Q := by
    intro n
    induction n with
    | zero => intro i h1 h2; exact absurd h2 (by omega)
    | succ n ih =>
      intro i h1 h2 a ha
      have eN : hI (wD σ 32 a) 3 0 = N := hN
      have eK : hI (wD σ 32 a) 4 = hI σ 4 := rfl
      have kb : i < N → 0 ≤ hI σ 4 i ∧ hI σ 4 i < 14 := fun h => hc.2.2.1 i (by omega) (by omega)
      have no : i < N → ¬ hI σ 4 i = 2 → J mT_sumsInto 2 [(0, vR 21), (1, vR 32), (2, vI (i + 1))] [] (wD σ 32 a) Q := fun h g => ih (i + 1) (by omega) (by omega) a (fun m x y z => by
        by_cases e : m = i
        · subst e; exact absurd z g
        · exact ha m x (by omega) z)
      have yes : i < N → hI σ 4 i = 2 → J mT_sumsInto 2 [(0, vR 21), (1, vR 32), (2, vI (i + 1))] [] (wD (wD σ 32 a) 32 (fup (hD (wD σ 32 a) 32) i (cvD (gsum arD fr (hI σ 10) r i 6).1))) Q := fun h g => by
        rw [wD_wD]
        refine ih (i + 1) (by omega) (by omega) _ (fun m x y z => ?_)
        show fup a i _ m = _
        by_cases e : m = i
        · subst e; rw [fup_s]; rfl
        · rw [fup_n e]; exact ha m x (by omega) z
      refine j_iload_n (p2 := 3) dT_sumsInto_2 rfl rfl ?_
      refine j_aload_n (p2 := 4) dT_sumsInto_3 rfl rfl ?_
      refine j_getR (p2 := 7) dT_sumsInto_4 rfl fa_T_49 ly_21 rfl ?_
      refine j_getIk (p2 := 10) dT_sumsInto_7 rfl fa_T_65 ly_3 rfl (ki := 0) rfl ?_
      refine j_icmp_ge (p2 := 13) (tg := 40) dT_sumsInto_10 rfl (by decide) (by constructor <;> omega) (by rw [eN]; constructor <;> omega) (fun h10 => ?_) (fun h10 => ?_)
      · refine j_return dT_sumsInto_40 rfl (by rw [eN] at h10; have e : i = N := (by omega); subst e; exact hQ a ha)
      · refine j_aload_n (p2 := 14) dT_sumsInto_13 rfl rfl ?_
        refine j_getR (p2 := 17) dT_sumsInto_14 rfl fa_T_49 ly_21 rfl ?_
        refine j_getR (p2 := 20) dT_sumsInto_17 rfl fa_T_119 ly_3 rfl ?_
        refine j_iload_n (p2 := 21) dT_sumsInto_20 rfl rfl ?_
        refine j_iald (p2 := 22) dT_sumsInto_21 rfl ly_4 (by decide) (by omega) (by rw [eN] at h10; omega) ?_
        refine j_iconst (p2 := 23) dT_sumsInto_22 rfl ?_
        refine j_icmp_ne (p2 := 26) (tg := 34) dT_sumsInto_23 rfl (by decide) (by rw [eN] at h10; rw [eK]; have := kb (by omega); constructor <;> omega) (by constructor <;> omega) (fun h23 => ?_) (fun h23 => ?_)
        · refine j_iinc (p2 := 37) (lv' := [(0, _), (1, _), (2, _)]) dT_sumsInto_34 rfl (Nat.le_of_ble_eq_true rfl) rfl ⟨rfl, rfl, rfl, trivial⟩ ?_
          refine j_goto (p2 := 2) dT_sumsInto_37 (by decide) ?_
          refine J.loc (lv' := [(0, _), (1, _), (2, _)]) ⟨rfl, rfl, rfl, trivial⟩ ?_
          first
            | (have g : hI σ 4 i = 2 := h23
               exact yes (by omega) g)
            | (have g : ¬ hI σ 4 i = 2 := h23
               rw [eN] at h10
               exact no (by omega) g)
        · refine j_aload_n (p2 := 27) dT_sumsInto_26 rfl rfl ?_
          refine j_iload_n (p2 := 28) dT_sumsInto_27 rfl rfl ?_
          refine j_aload_n (p2 := 29) dT_sumsInto_28 rfl rfl ?_
          refine j_iload_n (p2 := 30) dT_sumsInto_29 rfl rfl ?_
          refine j_callV (m' := mT_inputSum) (As := [_]) (p2 := 33) dT_sumsInto_30 rfl ml_T_122 ok_mT_inputSum im_mT_inputSum se_mT_inputSum rfl rfl (Nat.le_of_ble_eq_true rfl) ly_21 rfl (Nat.le_of_ble_eq_true rfl) ⟨(Nat.le_of_ble_eq_true rfl), (Nat.le_of_ble_eq_true rfl)⟩ ?_
          rw [eN] at h10
          rw [eK] at h23
          refine cTd_inputSum (σ := wD σ 32 a) hc hfl (by omega) hr ?_
          refine j_dastk (p2 := 34) dT_sumsInto_33 rfl ly_32 (by decide) (by omega) (by omega) ?_
          refine j_iinc (p2 := 37) (lv' := [(0, _), (1, _), (2, _)]) dT_sumsInto_34 rfl (Nat.le_of_ble_eq_true rfl) rfl ⟨rfl, rfl, rfl, trivial⟩ ?_
          refine j_goto (p2 := 2) dT_sumsInto_37 (by decide) ?_
          refine J.loc (lv' := [(0, _), (1, _), (2, _)]) ⟨rfl, rfl, rfl, trivial⟩ ?_
          first
            | (have g : hI σ 4 i = 2 := h23
               exact yes (by omega) g)
            | (have g : ¬ hI σ 4 i = 2 := h23
               rw [eN] at h10
               exact no (by omega) g)
  refine j_iconst (p2 := 1) dT_sumsInto_0 rfl ?_
  refine j_istore_n (p2 := 2) (lv' := [(0, _), (1, _), (2, _)]) dT_sumsInto_1 rfl (Nat.le_of_ble_eq_true rfl) ⟨rfl, rfl, rfl, trivial⟩ ?_
  refine J.loc (lv' := [(0, _), (1, _), (2, _)]) ⟨rfl, rfl, rfl, trivial⟩ ?_
  have := loop (N + 1) 0 (by omega) (by omega) (hD σ 32) (fun m x y => absurd y (by omega))
  rw [wD_id] at this
  exact this
theorem cTd_sumsInto_k4 {fr : Int → Int} {r : Int → UInt64} {N : Nat} (hc : CtI σ fr N) (hfl : hI σ 21 3 = 0) (hr : Rdd σ r N) (hQ : ∀ a, (∀ m : Int, 0 ≤ m → m < N → hI σ 4 m = 2 → a m = cvD (gra arD fr (hI σ 10) r m)) → Q none (wD σ 33 a)) : Sp mT_sumsInto [vR 21, vR 33] σ Q := by
  have hN := hc.1
  have hN2 := hc.2.1
  have loop : ∀ (n i : Nat), i ≤ N → N + 1 ≤ i + n → ∀ a, (∀ m : Int, 0 ≤ m → m < i → hI σ 4 m = 2 → a m = cvD (gra arD fr (hI σ 10) r m)) → J mT_sumsInto 2 [(0, vR 21), (1, vR 33), (2, vI i)] [] (wD σ 33 a) Q := by
    intro n
    induction n with
    | zero => intro i h1 h2; exact absurd h2 (by omega)
    | succ n ih =>
      intro i h1 h2 a ha
      have eN : hI (wD σ 33 a) 3 0 = N := hN
      have eK : hI (wD σ 33 a) 4 = hI σ 4 := rfl
      have kb : i < N → 0 ≤ hI σ 4 i ∧ hI σ 4 i < 14 := fun h => hc.2.2.1 i (by omega) (by omega)
      have no : i < N → ¬ hI σ 4 i = 2 → J mT_sumsInto 2 [(0, vR 21), (1, vR 33), (2, vI (i + 1))] [] (wD σ 33 a) Q := fun h g => ih (i + 1) (by omega) (by omega) a (fun m x y z => by
        by_cases e : m = i
        · subst e; exact absurd z g
        · exact ha m x (by omega) z)
      have yes : i < N → hI σ 4 i = 2 → J mT_sumsInto 2 [(0, vR 21), (1, vR 33), (2, vI (i + 1))] [] (wD (wD σ 33 a) 33 (fup (hD (wD σ 33 a) 33) i (cvD (gsum arD fr (hI σ 10) r i 6).1))) Q := fun h g => by
        rw [wD_wD]
        refine ih (i + 1) (by omega) (by omega) _ (fun m x y z => ?_)
        show fup a i _ m = _
        by_cases e : m = i
        · subst e; rw [fup_s]; rfl
        · rw [fup_n e]; exact ha m x (by omega) z
      refine j_iload_n (p2 := 3) dT_sumsInto_2 rfl rfl ?_
      refine j_aload_n (p2 := 4) dT_sumsInto_3 rfl rfl ?_
      refine j_getR (p2 := 7) dT_sumsInto_4 rfl fa_T_49 ly_21 rfl ?_
      refine j_getIk (p2 := 10) dT_sumsInto_7 rfl fa_T_65 ly_3 rfl (ki := 0) rfl ?_
      refine j_icmp_ge (p2 := 13) (tg := 40) dT_sumsInto_10 rfl (by decide) (by constructor <;> omega) (by rw [eN]; constructor <;> omega) (fun h10 => ?_) (fun h10 => ?_)
      · refine j_return dT_sumsInto_40 rfl (by rw [eN] at h10; have e : i = N := (by omega); subst e; exact hQ a ha)
      · refine j_aload_n (p2 := 14) dT_sumsInto_13 rfl rfl ?_
        refine j_getR (p2 := 17) dT_sumsInto_14 rfl fa_T_49 ly_21 rfl ?_
        refine j_getR (p2 := 20) dT_sumsInto_17 rfl fa_T_119 ly_3 rfl ?_
        refine j_iload_n (p2 := 21) dT_sumsInto_20 rfl rfl ?_
        refine j_iald (p2 := 22) dT_sumsInto_21 rfl ly_4 (by decide) (by omega) (by rw [eN] at h10; omega) ?_
        refine j_iconst (p2 := 23) dT_sumsInto_22 rfl ?_
        refine j_icmp_ne (p2 := 26) (tg := 34) dT_sumsInto_23 rfl (by decide) (by rw [eN] at h10; rw [eK]; have := kb (by omega); constructor <;> omega) (by constructor <;> omega) (fun h23 => ?_) (fun h23 => ?_)
        · refine j_iinc (p2 := 37) (lv' := [(0, _), (1, _), (2, _)]) dT_sumsInto_34 rfl (Nat.le_of_ble_eq_true rfl) rfl ⟨rfl, rfl, rfl, trivial⟩ ?_
          refine j_goto (p2 := 2) dT_sumsInto_37 (by decide) ?_
          refine J.loc (lv' := [(0, _), (1, _), (2, _)]) ⟨rfl, rfl, rfl, trivial⟩ ?_
          first
            | (have g : hI σ 4 i = 2 := h23
               exact yes (by omega) g)
            | (have g : ¬ hI σ 4 i = 2 := h23
               rw [eN] at h10
               exact no (by omega) g)
        · refine j_aload_n (p2 := 27) dT_sumsInto_26 rfl rfl ?_
          refine j_iload_n (p2 := 28) dT_sumsInto_27 rfl rfl ?_
          refine j_aload_n (p2 := 29) dT_sumsInto_28 rfl rfl ?_
          refine j_iload_n (p2 := 30) dT_sumsInto_29 rfl rfl ?_
          refine j_callV (m' := mT_inputSum) (As := [_]) (p2 := 33) dT_sumsInto_30 rfl ml_T_122 ok_mT_inputSum im_mT_inputSum se_mT_inputSum rfl rfl (Nat.le_of_ble_eq_true rfl) ly_21 rfl (Nat.le_of_ble_eq_true rfl) ⟨(Nat.le_of_ble_eq_true rfl), (Nat.le_of_ble_eq_true rfl)⟩ ?_
          rw [eN] at h10
          rw [eK] at h23
          refine cTd_inputSum (σ := wD σ 33 a) hc hfl (by omega) hr ?_
          refine j_dastk (p2 := 34) dT_sumsInto_33 rfl ly_33 (by decide) (by omega) (by omega) ?_
          refine j_iinc (p2 := 37) (lv' := [(0, _), (1, _), (2, _)]) dT_sumsInto_34 rfl (Nat.le_of_ble_eq_true rfl) rfl ⟨rfl, rfl, rfl, trivial⟩ ?_
          refine j_goto (p2 := 2) dT_sumsInto_37 (by decide) ?_
          refine J.loc (lv' := [(0, _), (1, _), (2, _)]) ⟨rfl, rfl, rfl, trivial⟩ ?_
          first
            | (have g : hI σ 4 i = 2 := h23
               exact yes (by omega) g)
            | (have g : ¬ hI σ 4 i = 2 := h23
               rw [eN] at h10
               exact no (by omega) g)
  refine j_iconst (p2 := 1) dT_sumsInto_0 rfl ?_
  refine j_istore_n (p2 := 2) (lv' := [(0, _), (1, _), (2, _)]) dT_sumsInto_1 rfl (Nat.le_of_ble_eq_true rfl) ⟨rfl, rfl, rfl, trivial⟩ ?_
  refine J.loc (lv' := [(0, _), (1, _), (2, _)]) ⟨rfl, rfl, rfl, trivial⟩ ?_
  have := loop (N + 1) 0 (by omega) (by omega) (hD σ 33) (fun m x y => absurd y (by omega))
  rw [wD_id] at this
  exact this
theorem cTf_sumsInto_k1 {fr : Int → Int} {r : Int → UInt32} {N : Nat} (hc : CtI σ fr N) (hfl : hI σ 34 3 = 1) (hr : Rdf σ r N) (hQ : ∀ a, (∀ m : Int, 0 ≤ m → m < N → hI σ 4 m = 2 → a m = cvF (gra arF fr (hI σ 10) r m)) → Q none (wD σ 43 a)) : Sp mT_sumsInto [vR 34, vR 43] σ Q := by
  have hN := hc.1
  have hN2 := hc.2.1
  have loop : ∀ (n i : Nat), i ≤ N → N + 1 ≤ i + n → ∀ a, (∀ m : Int, 0 ≤ m → m < i → hI σ 4 m = 2 → a m = cvF (gra arF fr (hI σ 10) r m)) → J mT_sumsInto 2 [(0, vR 34), (1, vR 43), (2, vI i)] [] (wD σ 43 a) Q := by
    intro n
    induction n with
    | zero => intro i h1 h2; exact absurd h2 (by omega)
    | succ n ih =>
      intro i h1 h2 a ha
      have eN : hI (wD σ 43 a) 3 0 = N := hN
      have eK : hI (wD σ 43 a) 4 = hI σ 4 := rfl
      have kb : i < N → 0 ≤ hI σ 4 i ∧ hI σ 4 i < 14 := fun h => hc.2.2.1 i (by omega) (by omega)
      have no : i < N → ¬ hI σ 4 i = 2 → J mT_sumsInto 2 [(0, vR 34), (1, vR 43), (2, vI (i + 1))] [] (wD σ 43 a) Q := fun h g => ih (i + 1) (by omega) (by omega) a (fun m x y z => by
        by_cases e : m = i
        · subst e; exact absurd z g
        · exact ha m x (by omega) z)
      have yes : i < N → hI σ 4 i = 2 → J mT_sumsInto 2 [(0, vR 34), (1, vR 43), (2, vI (i + 1))] [] (wD (wD σ 43 a) 43 (fup (hD (wD σ 43 a) 43) i (cvF (gsum arF fr (hI σ 10) r i 6).1))) Q := fun h g => by
        rw [wD_wD]
        refine ih (i + 1) (by omega) (by omega) _ (fun m x y z => ?_)
        show fup a i _ m = _
        by_cases e : m = i
        · subst e; rw [fup_s]; rfl
        · rw [fup_n e]; exact ha m x (by omega) z
      refine j_iload_n (p2 := 3) dT_sumsInto_2 rfl rfl ?_
      refine j_aload_n (p2 := 4) dT_sumsInto_3 rfl rfl ?_
      refine j_getR (p2 := 7) dT_sumsInto_4 rfl fa_T_49 ly_34 rfl ?_
      refine j_getIk (p2 := 10) dT_sumsInto_7 rfl fa_T_65 ly_3 rfl (ki := 0) rfl ?_
      refine j_icmp_ge (p2 := 13) (tg := 40) dT_sumsInto_10 rfl (by decide) (by constructor <;> omega) (by rw [eN]; constructor <;> omega) (fun h10 => ?_) (fun h10 => ?_)
      · refine j_return dT_sumsInto_40 rfl (by rw [eN] at h10; have e : i = N := (by omega); subst e; exact hQ a ha)
      · refine j_aload_n (p2 := 14) dT_sumsInto_13 rfl rfl ?_
        refine j_getR (p2 := 17) dT_sumsInto_14 rfl fa_T_49 ly_34 rfl ?_
        refine j_getR (p2 := 20) dT_sumsInto_17 rfl fa_T_119 ly_3 rfl ?_
        refine j_iload_n (p2 := 21) dT_sumsInto_20 rfl rfl ?_
        refine j_iald (p2 := 22) dT_sumsInto_21 rfl ly_4 (by decide) (by omega) (by rw [eN] at h10; omega) ?_
        refine j_iconst (p2 := 23) dT_sumsInto_22 rfl ?_
        refine j_icmp_ne (p2 := 26) (tg := 34) dT_sumsInto_23 rfl (by decide) (by rw [eN] at h10; rw [eK]; have := kb (by omega); constructor <;> omega) (by constructor <;> omega) (fun h23 => ?_) (fun h23 => ?_)
        · refine j_iinc (p2 := 37) (lv' := [(0, _), (1, _), (2, _)]) dT_sumsInto_34 rfl (Nat.le_of_ble_eq_true rfl) rfl ⟨rfl, rfl, rfl, trivial⟩ ?_
          refine j_goto (p2 := 2) dT_sumsInto_37 (by decide) ?_
          refine J.loc (lv' := [(0, _), (1, _), (2, _)]) ⟨rfl, rfl, rfl, trivial⟩ ?_
          first
            | (have g : hI σ 4 i = 2 := h23
               exact yes (by omega) g)
            | (have g : ¬ hI σ 4 i = 2 := h23
               rw [eN] at h10
               exact no (by omega) g)
        · refine j_aload_n (p2 := 27) dT_sumsInto_26 rfl rfl ?_
          refine j_iload_n (p2 := 28) dT_sumsInto_27 rfl rfl ?_
          refine j_aload_n (p2 := 29) dT_sumsInto_28 rfl rfl ?_
          refine j_iload_n (p2 := 30) dT_sumsInto_29 rfl rfl ?_
          refine j_callV (m' := mT_inputSum) (As := [_]) (p2 := 33) dT_sumsInto_30 rfl ml_T_122 ok_mT_inputSum im_mT_inputSum se_mT_inputSum rfl rfl (Nat.le_of_ble_eq_true rfl) ly_34 rfl (Nat.le_of_ble_eq_true rfl) ⟨(Nat.le_of_ble_eq_true rfl), (Nat.le_of_ble_eq_true rfl)⟩ ?_
          rw [eN] at h10
          rw [eK] at h23
          refine cTf_inputSum (σ := wD σ 43 a) hc hfl (by omega) hr ?_
          refine j_dastk (p2 := 34) dT_sumsInto_33 rfl ly_43 (by decide) (by omega) (by omega) ?_
          refine j_iinc (p2 := 37) (lv' := [(0, _), (1, _), (2, _)]) dT_sumsInto_34 rfl (Nat.le_of_ble_eq_true rfl) rfl ⟨rfl, rfl, rfl, trivial⟩ ?_
          refine j_goto (p2 := 2) dT_sumsInto_37 (by decide) ?_
          refine J.loc (lv' := [(0, _), (1, _), (2, _)]) ⟨rfl, rfl, rfl, trivial⟩ ?_
          first
            | (have g : hI σ 4 i = 2 := h23
               exact yes (by omega) g)
            | (have g : ¬ hI σ 4 i = 2 := h23
               rw [eN] at h10
               exact no (by omega) g)
  refine j_iconst (p2 := 1) dT_sumsInto_0 rfl ?_
  refine j_istore_n (p2 := 2) (lv' := [(0, _), (1, _), (2, _)]) dT_sumsInto_1 rfl (Nat.le_of_ble_eq_true rfl) ⟨rfl, rfl, rfl, trivial⟩ ?_
  refine J.loc (lv' := [(0, _), (1, _), (2, _)]) ⟨rfl, rfl, rfl, trivial⟩ ?_
  have := loop (N + 1) 0 (by omega) (by omega) (hD σ 43) (fun m x y => absurd y (by omega))
  rw [wD_id] at this
  exact this
theorem cTf_sumsInto_k2 {fr : Int → Int} {r : Int → UInt32} {N : Nat} (hc : CtI σ fr N) (hfl : hI σ 34 3 = 1) (hr : Rdf σ r N) (hQ : ∀ a, (∀ m : Int, 0 ≤ m → m < N → hI σ 4 m = 2 → a m = cvF (gra arF fr (hI σ 10) r m)) → Q none (wD σ 44 a)) : Sp mT_sumsInto [vR 34, vR 44] σ Q := by
  have hN := hc.1
  have hN2 := hc.2.1
  have loop : ∀ (n i : Nat), i ≤ N → N + 1 ≤ i + n → ∀ a, (∀ m : Int, 0 ≤ m → m < i → hI σ 4 m = 2 → a m = cvF (gra arF fr (hI σ 10) r m)) → J mT_sumsInto 2 [(0, vR 34), (1, vR 44), (2, vI i)] [] (wD σ 44 a) Q := by
    intro n
    induction n with
    | zero => intro i h1 h2; exact absurd h2 (by omega)
    | succ n ih =>
      intro i h1 h2 a ha
      have eN : hI (wD σ 44 a) 3 0 = N := hN
      have eK : hI (wD σ 44 a) 4 = hI σ 4 := rfl
      have kb : i < N → 0 ≤ hI σ 4 i ∧ hI σ 4 i < 14 := fun h => hc.2.2.1 i (by omega) (by omega)
      have no : i < N → ¬ hI σ 4 i = 2 → J mT_sumsInto 2 [(0, vR 34), (1, vR 44), (2, vI (i + 1))] [] (wD σ 44 a) Q := fun h g => ih (i + 1) (by omega) (by omega) a (fun m x y z => by
        by_cases e : m = i
        · subst e; exact absurd z g
        · exact ha m x (by omega) z)
      have yes : i < N → hI σ 4 i = 2 → J mT_sumsInto 2 [(0, vR 34), (1, vR 44), (2, vI (i + 1))] [] (wD (wD σ 44 a) 44 (fup (hD (wD σ 44 a) 44) i (cvF (gsum arF fr (hI σ 10) r i 6).1))) Q := fun h g => by
        rw [wD_wD]
        refine ih (i + 1) (by omega) (by omega) _ (fun m x y z => ?_)
        show fup a i _ m = _
        by_cases e : m = i
        · subst e; rw [fup_s]; rfl
        · rw [fup_n e]; exact ha m x (by omega) z
      refine j_iload_n (p2 := 3) dT_sumsInto_2 rfl rfl ?_
      refine j_aload_n (p2 := 4) dT_sumsInto_3 rfl rfl ?_
      refine j_getR (p2 := 7) dT_sumsInto_4 rfl fa_T_49 ly_34 rfl ?_
      refine j_getIk (p2 := 10) dT_sumsInto_7 rfl fa_T_65 ly_3 rfl (ki := 0) rfl ?_
      refine j_icmp_ge (p2 := 13) (tg := 40) dT_sumsInto_10 rfl (by decide) (by constructor <;> omega) (by rw [eN]; constructor <;> omega) (fun h10 => ?_) (fun h10 => ?_)
      · refine j_return dT_sumsInto_40 rfl (by rw [eN] at h10; have e : i = N := (by omega); subst e; exact hQ a ha)
      · refine j_aload_n (p2 := 14) dT_sumsInto_13 rfl rfl ?_
        refine j_getR (p2 := 17) dT_sumsInto_14 rfl fa_T_49 ly_34 rfl ?_
        refine j_getR (p2 := 20) dT_sumsInto_17 rfl fa_T_119 ly_3 rfl ?_
        refine j_iload_n (p2 := 21) dT_sumsInto_20 rfl rfl ?_
        refine j_iald (p2 := 22) dT_sumsInto_21 rfl ly_4 (by decide) (by omega) (by rw [eN] at h10; omega) ?_
        refine j_iconst (p2 := 23) dT_sumsInto_22 rfl ?_
        refine j_icmp_ne (p2 := 26) (tg := 34) dT_sumsInto_23 rfl (by decide) (by rw [eN] at h10; rw [eK]; have := kb (by omega); constructor <;> omega) (by constructor <;> omega) (fun h23 => ?_) (fun h23 => ?_)
        · refine j_iinc (p2 := 37) (lv' := [(0, _), (1, _), (2, _)]) dT_sumsInto_34 rfl (Nat.le_of_ble_eq_true rfl) rfl ⟨rfl, rfl, rfl, trivial⟩ ?_
          refine j_goto (p2 := 2) dT_sumsInto_37 (by decide) ?_
          refine J.loc (lv' := [(0, _), (1, _), (2, _)]) ⟨rfl, rfl, rfl, trivial⟩ ?_
          first
            | (have g : hI σ 4 i = 2 := h23
               exact yes (by omega) g)
            | (have g : ¬ hI σ 4 i = 2 := h23
               rw [eN] at h10
               exact no (by omega) g)
        · refine j_aload_n (p2 := 27) dT_sumsInto_26 rfl rfl ?_
          refine j_iload_n (p2 := 28) dT_sumsInto_27 rfl rfl ?_
          refine j_aload_n (p2 := 29) dT_sumsInto_28 rfl rfl ?_
          refine j_iload_n (p2 := 30) dT_sumsInto_29 rfl rfl ?_
          refine j_callV (m' := mT_inputSum) (As := [_]) (p2 := 33) dT_sumsInto_30 rfl ml_T_122 ok_mT_inputSum im_mT_inputSum se_mT_inputSum rfl rfl (Nat.le_of_ble_eq_true rfl) ly_34 rfl (Nat.le_of_ble_eq_true rfl) ⟨(Nat.le_of_ble_eq_true rfl), (Nat.le_of_ble_eq_true rfl)⟩ ?_
          rw [eN] at h10
          rw [eK] at h23
          refine cTf_inputSum (σ := wD σ 44 a) hc hfl (by omega) hr ?_
          refine j_dastk (p2 := 34) dT_sumsInto_33 rfl ly_44 (by decide) (by omega) (by omega) ?_
          refine j_iinc (p2 := 37) (lv' := [(0, _), (1, _), (2, _)]) dT_sumsInto_34 rfl (Nat.le_of_ble_eq_true rfl) rfl ⟨rfl, rfl, rfl, trivial⟩ ?_
          refine j_goto (p2 := 2) dT_sumsInto_37 (by decide) ?_
          refine J.loc (lv' := [(0, _), (1, _), (2, _)]) ⟨rfl, rfl, rfl, trivial⟩ ?_
          first
            | (have g : hI σ 4 i = 2 := h23
               exact yes (by omega) g)
            | (have g : ¬ hI σ 4 i = 2 := h23
               rw [eN] at h10
               exact no (by omega) g)
  refine j_iconst (p2 := 1) dT_sumsInto_0 rfl ?_
  refine j_istore_n (p2 := 2) (lv' := [(0, _), (1, _), (2, _)]) dT_sumsInto_1 rfl (Nat.le_of_ble_eq_true rfl) ⟨rfl, rfl, rfl, trivial⟩ ?_
  refine J.loc (lv' := [(0, _), (1, _), (2, _)]) ⟨rfl, rfl, rfl, trivial⟩ ?_
  have := loop (N + 1) 0 (by omega) (by omega) (hD σ 44) (fun m x y => absurd y (by omega))
  rw [wD_id] at this
  exact this
theorem cTf_sumsInto_k3 {fr : Int → Int} {r : Int → UInt32} {N : Nat} (hc : CtI σ fr N) (hfl : hI σ 34 3 = 1) (hr : Rdf σ r N) (hQ : ∀ a, (∀ m : Int, 0 ≤ m → m < N → hI σ 4 m = 2 → a m = cvF (gra arF fr (hI σ 10) r m)) → Q none (wD σ 45 a)) : Sp mT_sumsInto [vR 34, vR 45] σ Q := by
  have hN := hc.1
  have hN2 := hc.2.1
  have loop : ∀ (n i : Nat), i ≤ N → N + 1 ≤ i + n → ∀ a, (∀ m : Int, 0 ≤ m → m < i → hI σ 4 m = 2 → a m = cvF (gra arF fr (hI σ 10) r m)) → J mT_sumsInto 2 [(0, vR 34), (1, vR 45), (2, vI i)] [] (wD σ 45 a) Q := by
    intro n
    induction n with
    | zero => intro i h1 h2; exact absurd h2 (by omega)
    | succ n ih =>
      intro i h1 h2 a ha
      have eN : hI (wD σ 45 a) 3 0 = N := hN
      have eK : hI (wD σ 45 a) 4 = hI σ 4 := rfl
      have kb : i < N → 0 ≤ hI σ 4 i ∧ hI σ 4 i < 14 := fun h => hc.2.2.1 i (by omega) (by omega)
      have no : i < N → ¬ hI σ 4 i = 2 → J mT_sumsInto 2 [(0, vR 34), (1, vR 45), (2, vI (i + 1))] [] (wD σ 45 a) Q := fun h g => ih (i + 1) (by omega) (by omega) a (fun m x y z => by
        by_cases e : m = i
        · subst e; exact absurd z g
        · exact ha m x (by omega) z)
      have yes : i < N → hI σ 4 i = 2 → J mT_sumsInto 2 [(0, vR 34), (1, vR 45), (2, vI (i + 1))] [] (wD (wD σ 45 a) 45 (fup (hD (wD σ 45 a) 45) i (cvF (gsum arF fr (hI σ 10) r i 6).1))) Q := fun h g => by
        rw [wD_wD]
        refine ih (i + 1) (by omega) (by omega) _ (fun m x y z => ?_)
        show fup a i _ m = _
        by_cases e : m = i
        · subst e; rw [fup_s]; rfl
        · rw [fup_n e]; exact ha m x (by omega) z
      refine j_iload_n (p2 := 3) dT_sumsInto_2 rfl rfl ?_
      refine j_aload_n (p2 := 4) dT_sumsInto_3 rfl rfl ?_
      refine j_getR (p2 := 7) dT_sumsInto_4 rfl fa_T_49 ly_34 rfl ?_
      refine j_getIk (p2 := 10) dT_sumsInto_7 rfl fa_T_65 ly_3 rfl (ki := 0) rfl ?_
      refine j_icmp_ge (p2 := 13) (tg := 40) dT_sumsInto_10 rfl (by decide) (by constructor <;> omega) (by rw [eN]; constructor <;> omega) (fun h10 => ?_) (fun h10 => ?_)
      · refine j_return dT_sumsInto_40 rfl (by rw [eN] at h10; have e : i = N := (by omega); subst e; exact hQ a ha)
      · refine j_aload_n (p2 := 14) dT_sumsInto_13 rfl rfl ?_
        refine j_getR (p2 := 17) dT_sumsInto_14 rfl fa_T_49 ly_34 rfl ?_
        refine j_getR (p2 := 20) dT_sumsInto_17 rfl fa_T_119 ly_3 rfl ?_
        refine j_iload_n (p2 := 21) dT_sumsInto_20 rfl rfl ?_
        refine j_iald (p2 := 22) dT_sumsInto_21 rfl ly_4 (by decide) (by omega) (by rw [eN] at h10; omega) ?_
        refine j_iconst (p2 := 23) dT_sumsInto_22 rfl ?_
        refine j_icmp_ne (p2 := 26) (tg := 34) dT_sumsInto_23 rfl (by decide) (by rw [eN] at h10; rw [eK]; have := kb (by omega); constructor <;> omega) (by constructor <;> omega) (fun h23 => ?_) (fun h23 => ?_)
        · refine j_iinc (p2 := 37) (lv' := [(0, _), (1, _), (2, _)]) dT_sumsInto_34 rfl (Nat.le_of_ble_eq_true rfl) rfl ⟨rfl, rfl, rfl, trivial⟩ ?_
          refine j_goto (p2 := 2) dT_sumsInto_37 (by decide) ?_
          refine J.loc (lv' := [(0, _), (1, _), (2, _)]) ⟨rfl, rfl, rfl, trivial⟩ ?_
          first
            | (have g : hI σ 4 i = 2 := h23
               exact yes (by omega) g)
            | (have g : ¬ hI σ 4 i = 2 := h23
               rw [eN] at h10
               exact no (by omega) g)
        · refine j_aload_n (p2 := 27) dT_sumsInto_26 rfl rfl ?_
          refine j_iload_n (p2 := 28) dT_sumsInto_27 rfl rfl ?_
          refine j_aload_n (p2 := 29) dT_sumsInto_28 rfl rfl ?_
          refine j_iload_n (p2 := 30) dT_sumsInto_29 rfl rfl ?_
          refine j_callV (m' := mT_inputSum) (As := [_]) (p2 := 33) dT_sumsInto_30 rfl ml_T_122 ok_mT_inputSum im_mT_inputSum se_mT_inputSum rfl rfl (Nat.le_of_ble_eq_true rfl) ly_34 rfl (Nat.le_of_ble_eq_true rfl) ⟨(Nat.le_of_ble_eq_true rfl), (Nat.le_of_ble_eq_true rfl)⟩ ?_
          rw [eN] at h10
          rw [eK] at h23
          refine cTf_inputSum (σ := wD σ 45 a) hc hfl (by omega) hr ?_
          refine j_dastk (p2 := 34) dT_sumsInto_33 rfl ly_45 (by decide) (by omega) (by omega) ?_
          refine j_iinc (p2 := 37) (lv' := [(0, _), (1, _), (2, _)]) dT_sumsInto_34 rfl (Nat.le_of_ble_eq_true rfl) rfl ⟨rfl, rfl, rfl, trivial⟩ ?_
          refine j_goto (p2 := 2) dT_sumsInto_37 (by decide) ?_
          refine J.loc (lv' := [(0, _), (1, _), (2, _)]) ⟨rfl, rfl, rfl, trivial⟩ ?_
          first
            | (have g : hI σ 4 i = 2 := h23
               exact yes (by omega) g)
            | (have g : ¬ hI σ 4 i = 2 := h23
               rw [eN] at h10
               exact no (by omega) g)
  refine j_iconst (p2 := 1) dT_sumsInto_0 rfl ?_
  refine j_istore_n (p2 := 2) (lv' := [(0, _), (1, _), (2, _)]) dT_sumsInto_1 rfl (Nat.le_of_ble_eq_true rfl) ⟨rfl, rfl, rfl, trivial⟩ ?_
  refine J.loc (lv' := [(0, _), (1, _), (2, _)]) ⟨rfl, rfl, rfl, trivial⟩ ?_
  have := loop (N + 1) 0 (by omega) (by omega) (hD σ 45) (fun m x y => absurd y (by omega))
  rw [wD_id] at this
  exact this
theorem cTf_sumsInto_k4 {fr : Int → Int} {r : Int → UInt32} {N : Nat} (hc : CtI σ fr N) (hfl : hI σ 34 3 = 1) (hr : Rdf σ r N) (hQ : ∀ a, (∀ m : Int, 0 ≤ m → m < N → hI σ 4 m = 2 → a m = cvF (gra arF fr (hI σ 10) r m)) → Q none (wD σ 46 a)) : Sp mT_sumsInto [vR 34, vR 46] σ Q := by
  have hN := hc.1
  have hN2 := hc.2.1
  have loop : ∀ (n i : Nat), i ≤ N → N + 1 ≤ i + n → ∀ a, (∀ m : Int, 0 ≤ m → m < i → hI σ 4 m = 2 → a m = cvF (gra arF fr (hI σ 10) r m)) → J mT_sumsInto 2 [(0, vR 34), (1, vR 46), (2, vI i)] [] (wD σ 46 a) Q := by
    intro n
    induction n with
    | zero => intro i h1 h2; exact absurd h2 (by omega)
    | succ n ih =>
      intro i h1 h2 a ha
      have eN : hI (wD σ 46 a) 3 0 = N := hN
      have eK : hI (wD σ 46 a) 4 = hI σ 4 := rfl
      have kb : i < N → 0 ≤ hI σ 4 i ∧ hI σ 4 i < 14 := fun h => hc.2.2.1 i (by omega) (by omega)
      have no : i < N → ¬ hI σ 4 i = 2 → J mT_sumsInto 2 [(0, vR 34), (1, vR 46), (2, vI (i + 1))] [] (wD σ 46 a) Q := fun h g => ih (i + 1) (by omega) (by omega) a (fun m x y z => by
        by_cases e : m = i
        · subst e; exact absurd z g
        · exact ha m x (by omega) z)
      have yes : i < N → hI σ 4 i = 2 → J mT_sumsInto 2 [(0, vR 34), (1, vR 46), (2, vI (i + 1))] [] (wD (wD σ 46 a) 46 (fup (hD (wD σ 46 a) 46) i (cvF (gsum arF fr (hI σ 10) r i 6).1))) Q := fun h g => by
        rw [wD_wD]
        refine ih (i + 1) (by omega) (by omega) _ (fun m x y z => ?_)
        show fup a i _ m = _
        by_cases e : m = i
        · subst e; rw [fup_s]; rfl
        · rw [fup_n e]; exact ha m x (by omega) z
      refine j_iload_n (p2 := 3) dT_sumsInto_2 rfl rfl ?_
      refine j_aload_n (p2 := 4) dT_sumsInto_3 rfl rfl ?_
      refine j_getR (p2 := 7) dT_sumsInto_4 rfl fa_T_49 ly_34 rfl ?_
      refine j_getIk (p2 := 10) dT_sumsInto_7 rfl fa_T_65 ly_3 rfl (ki := 0) rfl ?_
      refine j_icmp_ge (p2 := 13) (tg := 40) dT_sumsInto_10 rfl (by decide) (by constructor <;> omega) (by rw [eN]; constructor <;> omega) (fun h10 => ?_) (fun h10 => ?_)
      · refine j_return dT_sumsInto_40 rfl (by rw [eN] at h10; have e : i = N := (by omega); subst e; exact hQ a ha)
      · refine j_aload_n (p2 := 14) dT_sumsInto_13 rfl rfl ?_
        refine j_getR (p2 := 17) dT_sumsInto_14 rfl fa_T_49 ly_34 rfl ?_
        refine j_getR (p2 := 20) dT_sumsInto_17 rfl fa_T_119 ly_3 rfl ?_
        refine j_iload_n (p2 := 21) dT_sumsInto_20 rfl rfl ?_
        refine j_iald (p2 := 22) dT_sumsInto_21 rfl ly_4 (by decide) (by omega) (by rw [eN] at h10; omega) ?_
        refine j_iconst (p2 := 23) dT_sumsInto_22 rfl ?_
        refine j_icmp_ne (p2 := 26) (tg := 34) dT_sumsInto_23 rfl (by decide) (by rw [eN] at h10; rw [eK]; have := kb (by omega); constructor <;> omega) (by constructor <;> omega) (fun h23 => ?_) (fun h23 => ?_)
        · refine j_iinc (p2 := 37) (lv' := [(0, _), (1, _), (2, _)]) dT_sumsInto_34 rfl (Nat.le_of_ble_eq_true rfl) rfl ⟨rfl, rfl, rfl, trivial⟩ ?_
          refine j_goto (p2 := 2) dT_sumsInto_37 (by decide) ?_
          refine J.loc (lv' := [(0, _), (1, _), (2, _)]) ⟨rfl, rfl, rfl, trivial⟩ ?_
          first
            | (have g : hI σ 4 i = 2 := h23
               exact yes (by omega) g)
            | (have g : ¬ hI σ 4 i = 2 := h23
               rw [eN] at h10
               exact no (by omega) g)
        · refine j_aload_n (p2 := 27) dT_sumsInto_26 rfl rfl ?_
          refine j_iload_n (p2 := 28) dT_sumsInto_27 rfl rfl ?_
          refine j_aload_n (p2 := 29) dT_sumsInto_28 rfl rfl ?_
          refine j_iload_n (p2 := 30) dT_sumsInto_29 rfl rfl ?_
          refine j_callV (m' := mT_inputSum) (As := [_]) (p2 := 33) dT_sumsInto_30 rfl ml_T_122 ok_mT_inputSum im_mT_inputSum se_mT_inputSum rfl rfl (Nat.le_of_ble_eq_true rfl) ly_34 rfl (Nat.le_of_ble_eq_true rfl) ⟨(Nat.le_of_ble_eq_true rfl), (Nat.le_of_ble_eq_true rfl)⟩ ?_
          rw [eN] at h10
          rw [eK] at h23
          refine cTf_inputSum (σ := wD σ 46 a) hc hfl (by omega) hr ?_
          refine j_dastk (p2 := 34) dT_sumsInto_33 rfl ly_46 (by decide) (by omega) (by omega) ?_
          refine j_iinc (p2 := 37) (lv' := [(0, _), (1, _), (2, _)]) dT_sumsInto_34 rfl (Nat.le_of_ble_eq_true rfl) rfl ⟨rfl, rfl, rfl, trivial⟩ ?_
          refine j_goto (p2 := 2) dT_sumsInto_37 (by decide) ?_
          refine J.loc (lv' := [(0, _), (1, _), (2, _)]) ⟨rfl, rfl, rfl, trivial⟩ ?_
          first
            | (have g : hI σ 4 i = 2 := h23
               exact yes (by omega) g)
            | (have g : ¬ hI σ 4 i = 2 := h23
               rw [eN] at h10
               exact no (by omega) g)
  refine j_iconst (p2 := 1) dT_sumsInto_0 rfl ?_
  refine j_istore_n (p2 := 2) (lv' := [(0, _), (1, _), (2, _)]) dT_sumsInto_1 rfl (Nat.le_of_ble_eq_true rfl) ⟨rfl, rfl, rfl, trivial⟩ ?_
  refine J.loc (lv' := [(0, _), (1, _), (2, _)]) ⟨rfl, rfl, rfl, trivial⟩ ?_
  have := loop (N + 1) 0 (by omega) (by omega) (hD σ 46) (fun m x y => absurd y (by omega))
  rw [wD_id] at this
  exact this
theorem cTt_sumsInto_k1 {fr : Int → Int} {r : Int → UInt64} {N : Nat} (hc : CtI σ fr N) (hfl : hI σ 56 3 = 0) (hr : Rdt σ r N) (hQ : ∀ a, (∀ m : Int, 0 ≤ m → m < N → hI σ 4 m = 2 → a m = cvD (gra arD fr (hI σ 10) r m)) → Q none (wD σ 65 a)) : Sp mT_sumsInto [vR 56, vR 65] σ Q := by
  have hN := hc.1
  have hN2 := hc.2.1
  have loop : ∀ (n i : Nat), i ≤ N → N + 1 ≤ i + n → ∀ a, (∀ m : Int, 0 ≤ m → m < i → hI σ 4 m = 2 → a m = cvD (gra arD fr (hI σ 10) r m)) → J mT_sumsInto 2 [(0, vR 56), (1, vR 65), (2, vI i)] [] (wD σ 65 a) Q := by
    intro n
    induction n with
    | zero => intro i h1 h2; exact absurd h2 (by omega)
    | succ n ih =>
      intro i h1 h2 a ha
      have eN : hI (wD σ 65 a) 3 0 = N := hN
      have eK : hI (wD σ 65 a) 4 = hI σ 4 := rfl
      have kb : i < N → 0 ≤ hI σ 4 i ∧ hI σ 4 i < 14 := fun h => hc.2.2.1 i (by omega) (by omega)
      have no : i < N → ¬ hI σ 4 i = 2 → J mT_sumsInto 2 [(0, vR 56), (1, vR 65), (2, vI (i + 1))] [] (wD σ 65 a) Q := fun h g => ih (i + 1) (by omega) (by omega) a (fun m x y z => by
        by_cases e : m = i
        · subst e; exact absurd z g
        · exact ha m x (by omega) z)
      have yes : i < N → hI σ 4 i = 2 → J mT_sumsInto 2 [(0, vR 56), (1, vR 65), (2, vI (i + 1))] [] (wD (wD σ 65 a) 65 (fup (hD (wD σ 65 a) 65) i (cvD (gsum arD fr (hI σ 10) r i 6).1))) Q := fun h g => by
        rw [wD_wD]
        refine ih (i + 1) (by omega) (by omega) _ (fun m x y z => ?_)
        show fup a i _ m = _
        by_cases e : m = i
        · subst e; rw [fup_s]; rfl
        · rw [fup_n e]; exact ha m x (by omega) z
      refine j_iload_n (p2 := 3) dT_sumsInto_2 rfl rfl ?_
      refine j_aload_n (p2 := 4) dT_sumsInto_3 rfl rfl ?_
      refine j_getR (p2 := 7) dT_sumsInto_4 rfl fa_T_49 ly_56 rfl ?_
      refine j_getIk (p2 := 10) dT_sumsInto_7 rfl fa_T_65 ly_3 rfl (ki := 0) rfl ?_
      refine j_icmp_ge (p2 := 13) (tg := 40) dT_sumsInto_10 rfl (by decide) (by constructor <;> omega) (by rw [eN]; constructor <;> omega) (fun h10 => ?_) (fun h10 => ?_)
      · refine j_return dT_sumsInto_40 rfl (by rw [eN] at h10; have e : i = N := (by omega); subst e; exact hQ a ha)
      · refine j_aload_n (p2 := 14) dT_sumsInto_13 rfl rfl ?_
        refine j_getR (p2 := 17) dT_sumsInto_14 rfl fa_T_49 ly_56 rfl ?_
        refine j_getR (p2 := 20) dT_sumsInto_17 rfl fa_T_119 ly_3 rfl ?_
        refine j_iload_n (p2 := 21) dT_sumsInto_20 rfl rfl ?_
        refine j_iald (p2 := 22) dT_sumsInto_21 rfl ly_4 (by decide) (by omega) (by rw [eN] at h10; omega) ?_
        refine j_iconst (p2 := 23) dT_sumsInto_22 rfl ?_
        refine j_icmp_ne (p2 := 26) (tg := 34) dT_sumsInto_23 rfl (by decide) (by rw [eN] at h10; rw [eK]; have := kb (by omega); constructor <;> omega) (by constructor <;> omega) (fun h23 => ?_) (fun h23 => ?_)
        · refine j_iinc (p2 := 37) (lv' := [(0, _), (1, _), (2, _)]) dT_sumsInto_34 rfl (Nat.le_of_ble_eq_true rfl) rfl ⟨rfl, rfl, rfl, trivial⟩ ?_
          refine j_goto (p2 := 2) dT_sumsInto_37 (by decide) ?_
          refine J.loc (lv' := [(0, _), (1, _), (2, _)]) ⟨rfl, rfl, rfl, trivial⟩ ?_
          first
            | (have g : hI σ 4 i = 2 := h23
               exact yes (by omega) g)
            | (have g : ¬ hI σ 4 i = 2 := h23
               rw [eN] at h10
               exact no (by omega) g)
        · refine j_aload_n (p2 := 27) dT_sumsInto_26 rfl rfl ?_
          refine j_iload_n (p2 := 28) dT_sumsInto_27 rfl rfl ?_
          refine j_aload_n (p2 := 29) dT_sumsInto_28 rfl rfl ?_
          refine j_iload_n (p2 := 30) dT_sumsInto_29 rfl rfl ?_
          refine j_callV (m' := mT_inputSum) (As := [_]) (p2 := 33) dT_sumsInto_30 rfl ml_T_122 ok_mT_inputSum im_mT_inputSum se_mT_inputSum rfl rfl (Nat.le_of_ble_eq_true rfl) ly_56 rfl (Nat.le_of_ble_eq_true rfl) ⟨(Nat.le_of_ble_eq_true rfl), (Nat.le_of_ble_eq_true rfl)⟩ ?_
          rw [eN] at h10
          rw [eK] at h23
          refine cTt_inputSum (σ := wD σ 65 a) hc hfl (by omega) hr ?_
          refine j_dastk (p2 := 34) dT_sumsInto_33 rfl ly_65 (by decide) (by omega) (by omega) ?_
          refine j_iinc (p2 := 37) (lv' := [(0, _), (1, _), (2, _)]) dT_sumsInto_34 rfl (Nat.le_of_ble_eq_true rfl) rfl ⟨rfl, rfl, rfl, trivial⟩ ?_
          refine j_goto (p2 := 2) dT_sumsInto_37 (by decide) ?_
          refine J.loc (lv' := [(0, _), (1, _), (2, _)]) ⟨rfl, rfl, rfl, trivial⟩ ?_
          first
            | (have g : hI σ 4 i = 2 := h23
               exact yes (by omega) g)
            | (have g : ¬ hI σ 4 i = 2 := h23
               rw [eN] at h10
               exact no (by omega) g)
  refine j_iconst (p2 := 1) dT_sumsInto_0 rfl ?_
  refine j_istore_n (p2 := 2) (lv' := [(0, _), (1, _), (2, _)]) dT_sumsInto_1 rfl (Nat.le_of_ble_eq_true rfl) ⟨rfl, rfl, rfl, trivial⟩ ?_
  refine J.loc (lv' := [(0, _), (1, _), (2, _)]) ⟨rfl, rfl, rfl, trivial⟩ ?_
  have := loop (N + 1) 0 (by omega) (by omega) (hD σ 65) (fun m x y => absurd y (by omega))
  rw [wD_id] at this
  exact this
theorem cTt_sumsInto_k2 {fr : Int → Int} {r : Int → UInt64} {N : Nat} (hc : CtI σ fr N) (hfl : hI σ 56 3 = 0) (hr : Rdt σ r N) (hQ : ∀ a, (∀ m : Int, 0 ≤ m → m < N → hI σ 4 m = 2 → a m = cvD (gra arD fr (hI σ 10) r m)) → Q none (wD σ 66 a)) : Sp mT_sumsInto [vR 56, vR 66] σ Q := by
  have hN := hc.1
  have hN2 := hc.2.1
  have loop : ∀ (n i : Nat), i ≤ N → N + 1 ≤ i + n → ∀ a, (∀ m : Int, 0 ≤ m → m < i → hI σ 4 m = 2 → a m = cvD (gra arD fr (hI σ 10) r m)) → J mT_sumsInto 2 [(0, vR 56), (1, vR 66), (2, vI i)] [] (wD σ 66 a) Q := by
    intro n
    induction n with
    | zero => intro i h1 h2; exact absurd h2 (by omega)
    | succ n ih =>
      intro i h1 h2 a ha
      have eN : hI (wD σ 66 a) 3 0 = N := hN
      have eK : hI (wD σ 66 a) 4 = hI σ 4 := rfl
      have kb : i < N → 0 ≤ hI σ 4 i ∧ hI σ 4 i < 14 := fun h => hc.2.2.1 i (by omega) (by omega)
      have no : i < N → ¬ hI σ 4 i = 2 → J mT_sumsInto 2 [(0, vR 56), (1, vR 66), (2, vI (i + 1))] [] (wD σ 66 a) Q := fun h g => ih (i + 1) (by omega) (by omega) a (fun m x y z => by
        by_cases e : m = i
        · subst e; exact absurd z g
        · exact ha m x (by omega) z)
      have yes : i < N → hI σ 4 i = 2 → J mT_sumsInto 2 [(0, vR 56), (1, vR 66), (2, vI (i + 1))] [] (wD (wD σ 66 a) 66 (fup (hD (wD σ 66 a) 66) i (cvD (gsum arD fr (hI σ 10) r i 6).1))) Q := fun h g => by
        rw [wD_wD]
        refine ih (i + 1) (by omega) (by omega) _ (fun m x y z => ?_)
        show fup a i _ m = _
        by_cases e : m = i
        · subst e; rw [fup_s]; rfl
        · rw [fup_n e]; exact ha m x (by omega) z
      refine j_iload_n (p2 := 3) dT_sumsInto_2 rfl rfl ?_
      refine j_aload_n (p2 := 4) dT_sumsInto_3 rfl rfl ?_
      refine j_getR (p2 := 7) dT_sumsInto_4 rfl fa_T_49 ly_56 rfl ?_
      refine j_getIk (p2 := 10) dT_sumsInto_7 rfl fa_T_65 ly_3 rfl (ki := 0) rfl ?_
      refine j_icmp_ge (p2 := 13) (tg := 40) dT_sumsInto_10 rfl (by decide) (by constructor <;> omega) (by rw [eN]; constructor <;> omega) (fun h10 => ?_) (fun h10 => ?_)
      · refine j_return dT_sumsInto_40 rfl (by rw [eN] at h10; have e : i = N := (by omega); subst e; exact hQ a ha)
      · refine j_aload_n (p2 := 14) dT_sumsInto_13 rfl rfl ?_
        refine j_getR (p2 := 17) dT_sumsInto_14 rfl fa_T_49 ly_56 rfl ?_
        refine j_getR (p2 := 20) dT_sumsInto_17 rfl fa_T_119 ly_3 rfl ?_
        refine j_iload_n (p2 := 21) dT_sumsInto_20 rfl rfl ?_
        refine j_iald (p2 := 22) dT_sumsInto_21 rfl ly_4 (by decide) (by omega) (by rw [eN] at h10; omega) ?_
        refine j_iconst (p2 := 23) dT_sumsInto_22 rfl ?_
        refine j_icmp_ne (p2 := 26) (tg := 34) dT_sumsInto_23 rfl (by decide) (by rw [eN] at h10; rw [eK]; have := kb (by omega); constructor <;> omega) (by constructor <;> omega) (fun h23 => ?_) (fun h23 => ?_)
        · refine j_iinc (p2 := 37) (lv' := [(0, _), (1, _), (2, _)]) dT_sumsInto_34 rfl (Nat.le_of_ble_eq_true rfl) rfl ⟨rfl, rfl, rfl, trivial⟩ ?_
          refine j_goto (p2 := 2) dT_sumsInto_37 (by decide) ?_
          refine J.loc (lv' := [(0, _), (1, _), (2, _)]) ⟨rfl, rfl, rfl, trivial⟩ ?_
          first
            | (have g : hI σ 4 i = 2 := h23
               exact yes (by omega) g)
            | (have g : ¬ hI σ 4 i = 2 := h23
               rw [eN] at h10
               exact no (by omega) g)
        · refine j_aload_n (p2 := 27) dT_sumsInto_26 rfl rfl ?_
          refine j_iload_n (p2 := 28) dT_sumsInto_27 rfl rfl ?_
          refine j_aload_n (p2 := 29) dT_sumsInto_28 rfl rfl ?_
          refine j_iload_n (p2 := 30) dT_sumsInto_29 rfl rfl ?_
          refine j_callV (m' := mT_inputSum) (As := [_]) (p2 := 33) dT_sumsInto_30 rfl ml_T_122 ok_mT_inputSum im_mT_inputSum se_mT_inputSum rfl rfl (Nat.le_of_ble_eq_true rfl) ly_56 rfl (Nat.le_of_ble_eq_true rfl) ⟨(Nat.le_of_ble_eq_true rfl), (Nat.le_of_ble_eq_true rfl)⟩ ?_
          rw [eN] at h10
          rw [eK] at h23
          refine cTt_inputSum (σ := wD σ 66 a) hc hfl (by omega) hr ?_
          refine j_dastk (p2 := 34) dT_sumsInto_33 rfl ly_66 (by decide) (by omega) (by omega) ?_
          refine j_iinc (p2 := 37) (lv' := [(0, _), (1, _), (2, _)]) dT_sumsInto_34 rfl (Nat.le_of_ble_eq_true rfl) rfl ⟨rfl, rfl, rfl, trivial⟩ ?_
          refine j_goto (p2 := 2) dT_sumsInto_37 (by decide) ?_
          refine J.loc (lv' := [(0, _), (1, _), (2, _)]) ⟨rfl, rfl, rfl, trivial⟩ ?_
          first
            | (have g : hI σ 4 i = 2 := h23
               exact yes (by omega) g)
            | (have g : ¬ hI σ 4 i = 2 := h23
               rw [eN] at h10
               exact no (by omega) g)
  refine j_iconst (p2 := 1) dT_sumsInto_0 rfl ?_
  refine j_istore_n (p2 := 2) (lv' := [(0, _), (1, _), (2, _)]) dT_sumsInto_1 rfl (Nat.le_of_ble_eq_true rfl) ⟨rfl, rfl, rfl, trivial⟩ ?_
  refine J.loc (lv' := [(0, _), (1, _), (2, _)]) ⟨rfl, rfl, rfl, trivial⟩ ?_
  have := loop (N + 1) 0 (by omega) (by omega) (hD σ 66) (fun m x y => absurd y (by omega))
  rw [wD_id] at this
  exact this
theorem cTt_sumsInto_k3 {fr : Int → Int} {r : Int → UInt64} {N : Nat} (hc : CtI σ fr N) (hfl : hI σ 56 3 = 0) (hr : Rdt σ r N) (hQ : ∀ a, (∀ m : Int, 0 ≤ m → m < N → hI σ 4 m = 2 → a m = cvD (gra arD fr (hI σ 10) r m)) → Q none (wD σ 67 a)) : Sp mT_sumsInto [vR 56, vR 67] σ Q := by
  have hN := hc.1
  have hN2 := hc.2.1
  have loop : ∀ (n i : Nat), i ≤ N → N + 1 ≤ i + n → ∀ a, (∀ m : Int, 0 ≤ m → m < i → hI σ 4 m = 2 → a m = cvD (gra arD fr (hI σ 10) r m)) → J mT_sumsInto 2 [(0, vR 56), (1, vR 67), (2, vI i)] [] (wD σ 67 a) Q := by
    intro n
    induction n with
    | zero => intro i h1 h2; exact absurd h2 (by omega)
    | succ n ih =>
      intro i h1 h2 a ha
      have eN : hI (wD σ 67 a) 3 0 = N := hN
      have eK : hI (wD σ 67 a) 4 = hI σ 4 := rfl
      have kb : i < N → 0 ≤ hI σ 4 i ∧ hI σ 4 i < 14 := fun h => hc.2.2.1 i (by omega) (by omega)
      have no : i < N → ¬ hI σ 4 i = 2 → J mT_sumsInto 2 [(0, vR 56), (1, vR 67), (2, vI (i + 1))] [] (wD σ 67 a) Q := fun h g => ih (i + 1) (by omega) (by omega) a (fun m x y z => by
        by_cases e : m = i
        · subst e; exact absurd z g
        · exact ha m x (by omega) z)
      have yes : i < N → hI σ 4 i = 2 → J mT_sumsInto 2 [(0, vR 56), (1, vR 67), (2, vI (i + 1))] [] (wD (wD σ 67 a) 67 (fup (hD (wD σ 67 a) 67) i (cvD (gsum arD fr (hI σ 10) r i 6).1))) Q := fun h g => by
        rw [wD_wD]
        refine ih (i + 1) (by omega) (by omega) _ (fun m x y z => ?_)
        show fup a i _ m = _
        by_cases e : m = i
        · subst e; rw [fup_s]; rfl
        · rw [fup_n e]; exact ha m x (by omega) z
      refine j_iload_n (p2 := 3) dT_sumsInto_2 rfl rfl ?_
      refine j_aload_n (p2 := 4) dT_sumsInto_3 rfl rfl ?_
      refine j_getR (p2 := 7) dT_sumsInto_4 rfl fa_T_49 ly_56 rfl ?_
      refine j_getIk (p2 := 10) dT_sumsInto_7 rfl fa_T_65 ly_3 rfl (ki := 0) rfl ?_
      refine j_icmp_ge (p2 := 13) (tg := 40) dT_sumsInto_10 rfl (by decide) (by constructor <;> omega) (by rw [eN]; constructor <;> omega) (fun h10 => ?_) (fun h10 => ?_)
      · refine j_return dT_sumsInto_40 rfl (by rw [eN] at h10; have e : i = N := (by omega); subst e; exact hQ a ha)
      · refine j_aload_n (p2 := 14) dT_sumsInto_13 rfl rfl ?_
        refine j_getR (p2 := 17) dT_sumsInto_14 rfl fa_T_49 ly_56 rfl ?_
        refine j_getR (p2 := 20) dT_sumsInto_17 rfl fa_T_119 ly_3 rfl ?_
        refine j_iload_n (p2 := 21) dT_sumsInto_20 rfl rfl ?_
        refine j_iald (p2 := 22) dT_sumsInto_21 rfl ly_4 (by decide) (by omega) (by rw [eN] at h10; omega) ?_
        refine j_iconst (p2 := 23) dT_sumsInto_22 rfl ?_
        refine j_icmp_ne (p2 := 26) (tg := 34) dT_sumsInto_23 rfl (by decide) (by rw [eN] at h10; rw [eK]; have := kb (by omega); constructor <;> omega) (by constructor <;> omega) (fun h23 => ?_) (fun h23 => ?_)
        · refine j_iinc (p2 := 37) (lv' := [(0, _), (1, _), (2, _)]) dT_sumsInto_34 rfl (Nat.le_of_ble_eq_true rfl) rfl ⟨rfl, rfl, rfl, trivial⟩ ?_
          refine j_goto (p2 := 2) dT_sumsInto_37 (by decide) ?_
          refine J.loc (lv' := [(0, _), (1, _), (2, _)]) ⟨rfl, rfl, rfl, trivial⟩ ?_
          first
            | (have g : hI σ 4 i = 2 := h23
               exact yes (by omega) g)
            | (have g : ¬ hI σ 4 i = 2 := h23
               rw [eN] at h10
               exact no (by omega) g)
        · refine j_aload_n (p2 := 27) dT_sumsInto_26 rfl rfl ?_
          refine j_iload_n (p2 := 28) dT_sumsInto_27 rfl rfl ?_
          refine j_aload_n (p2 := 29) dT_sumsInto_28 rfl rfl ?_
          refine j_iload_n (p2 := 30) dT_sumsInto_29 rfl rfl ?_
          refine j_callV (m' := mT_inputSum) (As := [_]) (p2 := 33) dT_sumsInto_30 rfl ml_T_122 ok_mT_inputSum im_mT_inputSum se_mT_inputSum rfl rfl (Nat.le_of_ble_eq_true rfl) ly_56 rfl (Nat.le_of_ble_eq_true rfl) ⟨(Nat.le_of_ble_eq_true rfl), (Nat.le_of_ble_eq_true rfl)⟩ ?_
          rw [eN] at h10
          rw [eK] at h23
          refine cTt_inputSum (σ := wD σ 67 a) hc hfl (by omega) hr ?_
          refine j_dastk (p2 := 34) dT_sumsInto_33 rfl ly_67 (by decide) (by omega) (by omega) ?_
          refine j_iinc (p2 := 37) (lv' := [(0, _), (1, _), (2, _)]) dT_sumsInto_34 rfl (Nat.le_of_ble_eq_true rfl) rfl ⟨rfl, rfl, rfl, trivial⟩ ?_
          refine j_goto (p2 := 2) dT_sumsInto_37 (by decide) ?_
          refine J.loc (lv' := [(0, _), (1, _), (2, _)]) ⟨rfl, rfl, rfl, trivial⟩ ?_
          first
            | (have g : hI σ 4 i = 2 := h23
               exact yes (by omega) g)
            | (have g : ¬ hI σ 4 i = 2 := h23
               rw [eN] at h10
               exact no (by omega) g)
  refine j_iconst (p2 := 1) dT_sumsInto_0 rfl ?_
  refine j_istore_n (p2 := 2) (lv' := [(0, _), (1, _), (2, _)]) dT_sumsInto_1 rfl (Nat.le_of_ble_eq_true rfl) ⟨rfl, rfl, rfl, trivial⟩ ?_
  refine J.loc (lv' := [(0, _), (1, _), (2, _)]) ⟨rfl, rfl, rfl, trivial⟩ ?_
  have := loop (N + 1) 0 (by omega) (by omega) (hD σ 67) (fun m x y => absurd y (by omega))
  rw [wD_id] at this
  exact this
theorem cTt_sumsInto_k4 {fr : Int → Int} {r : Int → UInt64} {N : Nat} (hc : CtI σ fr N) (hfl : hI σ 56 3 = 0) (hr : Rdt σ r N) (hQ : ∀ a, (∀ m : Int, 0 ≤ m → m < N → hI σ 4 m = 2 → a m = cvD (gra arD fr (hI σ 10) r m)) → Q none (wD σ 68 a)) : Sp mT_sumsInto [vR 56, vR 68] σ Q := by
  have hN := hc.1
  have hN2 := hc.2.1
  have loop : ∀ (n i : Nat), i ≤ N → N + 1 ≤ i + n → ∀ a, (∀ m : Int, 0 ≤ m → m < i → hI σ 4 m = 2 → a m = cvD (gra arD fr (hI σ 10) r m)) → J mT_sumsInto 2 [(0, vR 56), (1, vR 68), (2, vI i)] [] (wD σ 68 a) Q := by
    intro n
    induction n with
    | zero => intro i h1 h2; exact absurd h2 (by omega)
    | succ n ih =>
      intro i h1 h2 a ha
      have eN : hI (wD σ 68 a) 3 0 = N := hN
      have eK : hI (wD σ 68 a) 4 = hI σ 4 := rfl
      have kb : i < N → 0 ≤ hI σ 4 i ∧ hI σ 4 i < 14 := fun h => hc.2.2.1 i (by omega) (by omega)
      have no : i < N → ¬ hI σ 4 i = 2 → J mT_sumsInto 2 [(0, vR 56), (1, vR 68), (2, vI (i + 1))] [] (wD σ 68 a) Q := fun h g => ih (i + 1) (by omega) (by omega) a (fun m x y z => by
        by_cases e : m = i
        · subst e; exact absurd z g
        · exact ha m x (by omega) z)
      have yes : i < N → hI σ 4 i = 2 → J mT_sumsInto 2 [(0, vR 56), (1, vR 68), (2, vI (i + 1))] [] (wD (wD σ 68 a) 68 (fup (hD (wD σ 68 a) 68) i (cvD (gsum arD fr (hI σ 10) r i 6).1))) Q := fun h g => by
        rw [wD_wD]
        refine ih (i + 1) (by omega) (by omega) _ (fun m x y z => ?_)
        show fup a i _ m = _
        by_cases e : m = i
        · subst e; rw [fup_s]; rfl
        · rw [fup_n e]; exact ha m x (by omega) z
      refine j_iload_n (p2 := 3) dT_sumsInto_2 rfl rfl ?_
      refine j_aload_n (p2 := 4) dT_sumsInto_3 rfl rfl ?_
      refine j_getR (p2 := 7) dT_sumsInto_4 rfl fa_T_49 ly_56 rfl ?_
      refine j_getIk (p2 := 10) dT_sumsInto_7 rfl fa_T_65 ly_3 rfl (ki := 0) rfl ?_
      refine j_icmp_ge (p2 := 13) (tg := 40) dT_sumsInto_10 rfl (by decide) (by constructor <;> omega) (by rw [eN]; constructor <;> omega) (fun h10 => ?_) (fun h10 => ?_)
      · refine j_return dT_sumsInto_40 rfl (by rw [eN] at h10; have e : i = N := (by omega); subst e; exact hQ a ha)
      · refine j_aload_n (p2 := 14) dT_sumsInto_13 rfl rfl ?_
        refine j_getR (p2 := 17) dT_sumsInto_14 rfl fa_T_49 ly_56 rfl ?_
        refine j_getR (p2 := 20) dT_sumsInto_17 rfl fa_T_119 ly_3 rfl ?_
        refine j_iload_n (p2 := 21) dT_sumsInto_20 rfl rfl ?_
        refine j_iald (p2 := 22) dT_sumsInto_21 rfl ly_4 (by decide) (by omega) (by rw [eN] at h10; omega) ?_
        refine j_iconst (p2 := 23) dT_sumsInto_22 rfl ?_
        refine j_icmp_ne (p2 := 26) (tg := 34) dT_sumsInto_23 rfl (by decide) (by rw [eN] at h10; rw [eK]; have := kb (by omega); constructor <;> omega) (by constructor <;> omega) (fun h23 => ?_) (fun h23 => ?_)
        · refine j_iinc (p2 := 37) (lv' := [(0, _), (1, _), (2, _)]) dT_sumsInto_34 rfl (Nat.le_of_ble_eq_true rfl) rfl ⟨rfl, rfl, rfl, trivial⟩ ?_
          refine j_goto (p2 := 2) dT_sumsInto_37 (by decide) ?_
          refine J.loc (lv' := [(0, _), (1, _), (2, _)]) ⟨rfl, rfl, rfl, trivial⟩ ?_
          first
            | (have g : hI σ 4 i = 2 := h23
               exact yes (by omega) g)
            | (have g : ¬ hI σ 4 i = 2 := h23
               rw [eN] at h10
               exact no (by omega) g)
        · refine j_aload_n (p2 := 27) dT_sumsInto_26 rfl rfl ?_
          refine j_iload_n (p2 := 28) dT_sumsInto_27 rfl rfl ?_
          refine j_aload_n (p2 := 29) dT_sumsInto_28 rfl rfl ?_
          refine j_iload_n (p2 := 30) dT_sumsInto_29 rfl rfl ?_
          refine j_callV (m' := mT_inputSum) (As := [_]) (p2 := 33) dT_sumsInto_30 rfl ml_T_122 ok_mT_inputSum im_mT_inputSum se_mT_inputSum rfl rfl (Nat.le_of_ble_eq_true rfl) ly_56 rfl (Nat.le_of_ble_eq_true rfl) ⟨(Nat.le_of_ble_eq_true rfl), (Nat.le_of_ble_eq_true rfl)⟩ ?_
          rw [eN] at h10
          rw [eK] at h23
          refine cTt_inputSum (σ := wD σ 68 a) hc hfl (by omega) hr ?_
          refine j_dastk (p2 := 34) dT_sumsInto_33 rfl ly_68 (by decide) (by omega) (by omega) ?_
          refine j_iinc (p2 := 37) (lv' := [(0, _), (1, _), (2, _)]) dT_sumsInto_34 rfl (Nat.le_of_ble_eq_true rfl) rfl ⟨rfl, rfl, rfl, trivial⟩ ?_
          refine j_goto (p2 := 2) dT_sumsInto_37 (by decide) ?_
          refine J.loc (lv' := [(0, _), (1, _), (2, _)]) ⟨rfl, rfl, rfl, trivial⟩ ?_
          first
            | (have g : hI σ 4 i = 2 := h23
               exact yes (by omega) g)
            | (have g : ¬ hI σ 4 i = 2 := h23
               rw [eN] at h10
               exact no (by omega) g)
  refine j_iconst (p2 := 1) dT_sumsInto_0 rfl ?_
  refine j_istore_n (p2 := 2) (lv' := [(0, _), (1, _), (2, _)]) dT_sumsInto_1 rfl (Nat.le_of_ble_eq_true rfl) ⟨rfl, rfl, rfl, trivial⟩ ?_
  refine J.loc (lv' := [(0, _), (1, _), (2, _)]) ⟨rfl, rfl, rfl, trivial⟩ ?_
  have := loop (N + 1) 0 (by omega) (by omega) (hD σ 68) (fun m x y => absurd y (by omega))
  rw [wD_id] at this
  exact this
end TWC5
