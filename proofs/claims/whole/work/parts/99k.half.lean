/-! ===== the reference: halved ===== -/
section RHV
variable {σ : Hp} {Q : Option PV → Hp → Prop} {N : Nat}
theorem it_69 {x : Int} (hx : ¬ x = 12) : ∀ n : Nat, hI (itH σ N n) 69 x = hI σ 69 x
  | 0 => rfl
  | n + 1 => by
    show hI (stepH (itH σ N n) N) 69 x = _
    rw [stepH_69I, fup_n hx, it_69 hx n]
theorem tr_69 {n : Nat} {t : UInt64} {x : Int} (h1 : ¬ x = 12) (h2 : ¬ x = 44) : hI (trH σ N n t) 69 x = hI σ 69 x := by
  unfold trH
  rw [it_69 h1]
  have e : hI (leH (begH σ N) t) 69 = hI (begH σ N) 69 := rfl
  rw [e, begH_69, fup_n h2, fup_n h1]
theorem WP.fr {τ : Hp} {S : List Nat} (h : WP σ N) (F : FqO S σ τ) (hS : 70 ∉ S ∧ 71 ∉ S ∧ 72 ∉ S ∧ 73 ∉ S ∧ 74 ∉ S ∧ 75 ∉ S ∧ 76 ∉ S ∧ 77 ∉ S) (hN : hI τ 69 0 = N) : WP τ N := by
  obtain ⟨s0, s1, s2, s3, s4, s5, s6, s7⟩ := hS
  obtain ⟨a1, a2, a3, a4⟩ := h
  refine ⟨hN, a2, ?_, ?_⟩
  · rw [F.I s2]; exact a3
  · unfold WfQ WfX CdR TbR nnR at *
    rw [F.I s0, F.D s1, F.I s2, F.I s3, F.D s4, F.I s5, F.D s6, F.D s7]
    exact a4
abbrev TrR : List Nat := 79 :: 89 :: StC
/-- what a trial of the reference needs -/
abbrev TrI (σ : Hp) (N k : Nat) : Prop := WP σ N ∧ RdR σ ∧ Zr σ N ∧ (0 ≤ hI σ 69 13 ∧ hI σ 69 13 ≤ 2) ∧ hI σ 69 14 = k
theorem TrI.tr {k n : Nat} {t : UInt64} (h : TrI σ N k) (w : WS (trH σ N n t) N) (z : Zr (trH σ N n t) N) : TrI (trH σ N n t) N k := by
  obtain ⟨a1, a2, a3, a4, a5⟩ := h
  refine ⟨a1.fr fo_tr (by decide) w.1.1, ws_rdr w, z, ?_, ?_⟩
  · rw [tr_69 (by decide) (by decide)]; exact a4
  · rw [tr_69 (by decide) (by decide)]; exact a5
def hvH (σ : Hp) (N k : Nat) : Nat → Hp
  | 0 => σ
  | j + 1 => trH (trH (hvH σ N k j) N (j + 1) (lenD k)) N (2 * (j + 1)) (lenD (k + 1))
def hvW (σ : Hp) (N k : Nat) (q : Int) : Nat → UInt64 := fun j => hD (trH (hvH σ N k j) N (j + 1) (lenD k)) 82 q
def hvV (σ : Hp) (N k : Nat) (q : Int) : Nat → UInt64 := fun j => hD (hvH σ N k (j + 1)) 82 q
theorem fo_hv {k : Nat} : ∀ n : Nat, FqO TrR σ (hvH σ N k n)
  | 0 => FqO.rf
  | n + 1 => ((fo_hv n).trans fo_tr).trans fo_tr
theorem szD_mg {x : UInt64} {K : Nat} (h : mg x K) : mg (szD x) K := by
  unfold szD
  by_cases g : FP.dcmp x FP.dconst0 = some .lt
  · rw [if_pos g]
    unfold mg at h ⊢
    rw [dneg_mod]; exact h
  · rw [if_neg g]; exact h
theorem ggp_mg {W H : Nat → UInt64} : ∀ n : Nat, (∀ j : Nat, j < n → mg (W j) 1024 ∧ mg (H j) 1024) → mg (ggp W H n) 1026
  | 0, _ => by unfold ggp mg; decide
  | n + 1, h => by
    have ih := ggp_mg n (fun j hj => h j (by omega))
    obtain ⟨a, b⟩ := h n (by omega)
    unfold ggp
    by_cases g : FP.dcmp (szD (FP.dsub (W n) (H n))) (ggp W H n) = some .gt
    · rw [if_pos g]; exact szD_mg (mg_sub a b (by decide))
    · rw [if_neg g]; exact ih
theorem lenD_1023 : ∀ k : Nat, k < 31 → 1 ≤ k → mg (lenD k) 1023 := by unfold mg; decide +kernel
theorem ggp_s {W H : Nat → UInt64} {n : Nat} {X : UInt64} (a : UInt64) (ha : (FP.dcmp (FP.dsub (W n) (H n)) FP.dconst0 = some .lt ∧ a = FP.dneg (FP.dsub (W n) (H n))) ∨ (¬ FP.dcmp (FP.dsub (W n) (H n)) FP.dconst0 = some .lt ∧ a = FP.dsub (W n) (H n))) (hX : (FP.dcmp a (ggp W H n) = some .gt ∧ X = a) ∨ (¬ FP.dcmp a (ggp W H n) = some .gt ∧ X = ggp W H n)) : X = ggp W H (n + 1) := by
  have e : szD (FP.dsub (W n) (H n)) = a := by
    unfold szD
    rcases ha with ⟨g, h⟩ | ⟨g, h⟩
    · rw [if_pos g, h]
    · rw [if_neg g, h]
  show X = (if FP.dcmp (szD (FP.dsub (W n) (H n))) (ggp W H n) = some .gt then szD (FP.dsub (W n) (H n)) else ggp W H n)
  rw [e]
  rcases hX with ⟨g, h⟩ | ⟨g, h⟩
  · rw [if_pos g, h]
  · rw [if_neg g, h]
theorem cM_halved {q n : Int} {k : Nat} (hs : Sc σ) (hq : inR q) (hn : inR n) (hk : 1 ≤ k ∧ k ≤ 20) (hN : hI σ 69 0 = N) (h1 : ¬ (isM σ q ∧ (1 ≤ n ∧ n ≤ 20) ∧ ¬ hI σ 69 11 = 0) → Q (some (vL 0)) σ)
    (h2 : isM σ q → (1 ≤ n ∧ n ≤ 20) → ¬ hI σ 69 11 = 0 → TrI σ N k ∧ ((∀ j : Nat, j < n.toNat → mg (hvW (kpH σ) N k q j) 1024 ∧ mg (hvV (kpH σ) N k q j) 1024) → TrI (hvH (kpH σ) N k n.toNat) N k → WS (hvH (kpH σ) N k n.toNat) N → Q (some (vL (ggp (hvW (kpH σ) N k q) (hvV (kpH σ) N k q) n.toNat).toInt64)) (bkH (hvH (kpH σ) N k n.toNat)))) : Sp mM_halved [vR 69, vI q, vI n] σ Q := by
  obtain ⟨s1, s2, s3, s4⟩ := hs
  have at27 : isM σ q → (1 ≤ n ∧ n ≤ 20) → ¬ hI σ 69 11 = 0 → J mM_halved 27 [(0, vR 69), (1, vI q), (2, vI n)] [] σ Q := by
    intro g1 g2 g3
    obtain ⟨t0, hq2⟩ := h2 g1 g2 g3
    obtain ⟨j, hj⟩ : ∃ j : Nat, n = j := ⟨n.toNat, by omega⟩
    subst hj
    rw [Int.toNat_natCast] at hq2
    have t1 : TrI (kpH σ) N k := by
      obtain ⟨⟨b1, b2, b3, b4⟩, a2, a3, a4, a5⟩ := t0
      exact ⟨⟨b1, b2, b3, b4⟩, a2, a3, a4, a5⟩
    have go : J mM_halved 31 [(0, vR 69), (1, vI q), (2, vI j)] [] (kpH σ) Q := by
      generalize kpH σ = ω at t1 hq2
      have loop : ∀ (f i : Nat), i + f = j → TrI (hvH ω N k i) N k → (0 < i → WS (hvH ω N k i) N) → (∀ x : Nat, x < i → mg (hvW ω N k q x) 1024 ∧ mg (hvV ω N k q x) 1024) → J mM_halved 36 [(0, vR 69), (1, vI q), (2, vI j), (3, vD (ggp (hvW ω N k q) (hvV ω N k q) i)), (5, vI ((i : Int) + 1))] [] (hvH ω N k i) Q := by
        intro f
        induction f with
        | zero =>
          intro i e t w b
          have e : i = j := by omega
          subst e
          refine j_iload (p2 := 38) dM_halved_36 rfl rfl ?_
          refine j_iload_n (p2 := 39) dM_halved_38 rfl rfl ?_
          refine j_icmp_gt (p2 := 42) (tg := 120) dM_halved_39 rfl (by decide) (by constructor <;> omega) (by constructor <;> omega) (fun h39 => ?_) (fun h39 => ?_)
          · refine j_aload_n (p2 := 121) dM_halved_120 rfl rfl ?_
            refine j_callV (m' := mM_back) (As := []) (p2 := 124) dM_halved_121 rfl ml_M_375 ok_mM_back im_mM_back se_mM_back rfl rfl (Nat.le_of_ble_eq_true rfl) ly_69 rfl (Nat.le_of_ble_eq_true rfl) ⟨(Nat.le_of_ble_eq_true rfl), (Nat.le_of_ble_eq_true rfl)⟩ ?_
            refine cM_back ?_
            refine j_dload_n (p2 := 125) dM_halved_124 rfl rfl ?_
            refine j_callS (m' := mJD_doubleToLongBits) (As := [_]) (p2 := 128) dM_halved_125 rfl ml_M_250 ok_mJD_doubleToLongBits sm_mJD_doubleToLongBits rfl rfl (Nat.le_of_ble_eq_true rfl) (Nat.le_of_ble_eq_true rfl) ⟨(Nat.le_of_ble_eq_true rfl), (Nat.le_of_ble_eq_true rfl)⟩ ?_
            refine cJD_doubleToLongBits ((ggp_mg i b).nn (by decide)) ?_
            refine j_lreturn dM_halved_128 rfl (by exact hq2 b t (w (by omega)))
          · refine J.loc (lv' := [(0, _), (1, _), (2, _), (3, _), (5, _)]) ⟨rfl, rfl, rfl, rfl, rfl, trivial⟩ ?_
            exfalso
            omega
        | succ f ih =>
          intro i e t w b
          have nxt : ∀ X, X = ggp (hvW ω N k q) (hvV ω N k q) (i + 1) → TrI (hvH ω N k (i + 1)) N k → WS (hvH ω N k (i + 1)) N → mg (hvW ω N k q i) 1024 → mg (hvV ω N k q i) 1024 → J mM_halved 36 [(0, vR 69), (1, vI q), (2, vI j), (3, vD X), (5, vI ((i : Int) + 1 + 1))] [] (hvH ω N k (i + 1)) Q := fun X hX t2 w2 bW bV => by
            rw [hX]
            refine ih (i + 1) (by omega) t2 (fun _ => w2) (fun x hx => ?_)
            by_cases g : x = i
            · rw [g]; exact ⟨bW, bV⟩
            · exact b x (by omega)
          clear ih hq2
          refine j_iload (p2 := 38) dM_halved_36 rfl rfl ?_
          refine j_iload_n (p2 := 39) dM_halved_38 rfl rfl ?_
          refine j_icmp_gt (p2 := 42) (tg := 120) dM_halved_39 rfl (by decide) (by constructor <;> omega) (by constructor <;> omega) (fun h39 => ?_) (fun h39 => ?_)
          · refine J.loc (lv' := [(0, _), (3, _)]) ⟨rfl, rfl, trivial⟩ ?_
            exfalso
            omega
          · refine j_aload_n (p2 := 43) dM_halved_42 rfl rfl ?_
            refine j_iload_n (p2 := 44) dM_halved_43 rfl rfl ?_
            refine j_iload (p2 := 46) dM_halved_44 rfl rfl ?_
            refine j_aload_n (p2 := 47) dM_halved_46 rfl rfl ?_
            refine j_aload_n (p2 := 48) dM_halved_47 rfl rfl ?_
            refine j_getIk (p2 := 51) dM_halved_48 rfl fa_M_42 ly_69 rfl (ki := 14) rfl ?_
            refine j_callV (m' := mM_lengthOf) (As := [_]) (p2 := 54) dM_halved_51 rfl ml_M_344 ok_mM_lengthOf im_mM_lengthOf se_mM_lengthOf rfl rfl (Nat.le_of_ble_eq_true rfl) ly_69 rfl (Nat.le_of_ble_eq_true rfl) ⟨(Nat.le_of_ble_eq_true rfl), (Nat.le_of_ble_eq_true rfl)⟩ ?_
            rw [t.2.2.2.2]
            refine cM_lengthOf (by omega) ?_
            refine j_callV (m' := mM_tried) (As := [_, _, _]) (p2 := 57) dM_halved_54 rfl ml_M_371 ok_mM_tried im_mM_tried se_mM_tried rfl rfl (Nat.le_of_ble_eq_true rfl) ly_69 rfl (Nat.le_of_ble_eq_true rfl) ⟨(Nat.le_of_ble_eq_true rfl), (Nat.le_of_ble_eq_true rfl)⟩ ?_
            refine cM_tried (n := i + 1) t.1 t.2.1 t.2.2.1 (lenD_1023 k (by omega) hk.1) t.2.2.2.1 ⟨g1.1, by have := g1.2; omega⟩ (by omega) (fun w1 z1 => ?_)
            have t1 := t.tr w1 z1
            have bW : mg (hvW ω N k q i) 1024 := (w1.2.1 q g1.1 (by have := g1.2; omega)).1
            have eX : hvW ω N k q i = hD (trH (hvH ω N k i) N (i + 1) (lenD k)) 82 q := rfl
            rw [← eX]
            refine j_dstore (p2 := 59) (lv' := [(0, _), (1, _), (2, _), (3, _), (5, _), (6, _)]) dM_halved_57 rfl (Nat.le_of_ble_eq_true rfl) ⟨rfl, rfl, rfl, rfl, rfl, rfl, trivial⟩ ?_
            refine j_dload (p2 := 61) dM_halved_59 rfl rfl ?_
            refine j_aload_n (p2 := 62) dM_halved_61 rfl rfl ?_
            refine j_iload_n (p2 := 63) dM_halved_62 rfl rfl ?_
            refine j_iconst (p2 := 64) dM_halved_63 rfl ?_
            refine j_iload (p2 := 66) dM_halved_64 rfl rfl ?_
            refine j_imul (p2 := 67) dM_halved_66 rfl ?_
            refine j_aload_n (p2 := 68) dM_halved_67 rfl rfl ?_
            refine j_aload_n (p2 := 69) dM_halved_68 rfl rfl ?_
            refine j_getIk (p2 := 72) dM_halved_69 rfl fa_M_42 ly_69 rfl (ki := 14) rfl ?_
            refine j_iconst (p2 := 73) dM_halved_72 rfl ?_
            refine j_iadd (p2 := 74) dM_halved_73 rfl ?_
            refine j_callV (m' := mM_lengthOf) (As := [_]) (p2 := 77) dM_halved_74 rfl ml_M_344 ok_mM_lengthOf im_mM_lengthOf se_mM_lengthOf rfl rfl (Nat.le_of_ble_eq_true rfl) ly_69 rfl (Nat.le_of_ble_eq_true rfl) ⟨(Nat.le_of_ble_eq_true rfl), (Nat.le_of_ble_eq_true rfl)⟩ ?_
            rw [t1.2.2.2.2]
            refine cM_lengthOf (k := k + 1) (by omega) ?_
            refine j_callV (m' := mM_tried) (As := [_, _, _]) (p2 := 80) dM_halved_77 rfl ml_M_371 ok_mM_tried im_mM_tried se_mM_tried rfl rfl (Nat.le_of_ble_eq_true rfl) ly_69 rfl (Nat.le_of_ble_eq_true rfl) ⟨(Nat.le_of_ble_eq_true rfl), (Nat.le_of_ble_eq_true rfl)⟩ ?_
            rw [show ((2 : Int) * ((i : Int) + 1)) = ((2 * (i + 1) : Nat) : Int) by omega]
            refine cM_tried (n := 2 * (i + 1)) t1.1 t1.2.1 t1.2.2.1 (lenD_1023 (k + 1) (by omega) (by omega)) t1.2.2.2.1 ⟨g1.1, by have := g1.2; omega⟩ (by omega) (fun w2 z2 => ?_)
            have t2 := t1.tr w2 z2
            have bV : mg (hvV ω N k q i) 1024 := (w2.2.1 q g1.1 (by have := g1.2; omega)).1
            have eY : hvV ω N k q i = hD (trH (trH (hvH ω N k i) N (i + 1) (lenD k)) N (2 * (i + 1)) (lenD (k + 1))) 82 q := rfl
            have eH : hvH ω N k (i + 1) = trH (trH (hvH ω N k i) N (i + 1) (lenD k)) N (2 * (i + 1)) (lenD (k + 1)) := rfl
            rw [← eY, ← eH]
            rw [← eH] at t2 w2
            have nd : vf_n64 (FP.dsub (hvW ω N k q i) (hvV ω N k q i)) := (mg_sub bW bV (by decide)).nn (by decide)
            clear eX eY eH t1 w1 z1 z2
            refine j_dsub (p2 := 81) dM_halved_80 rfl nd ?_
            refine j_dstore (p2 := 83) (lv' := [(0, _), (1, _), (2, _), (3, _), (5, _), (8, _)]) dM_halved_81 rfl (Nat.le_of_ble_eq_true rfl) ⟨rfl, rfl, rfl, rfl, rfl, rfl, trivial⟩ ?_
            refine j_dload (p2 := 85) dM_halved_83 rfl rfl ?_
            refine j_dconst0 (p2 := 86) dM_halved_85 rfl ?_
            refine j_dcmp_g_ge (p1 := 87) (p2 := 90) (tg := 96) dM_halved_86 rfl dM_halved_87 rfl (by decide) (fun h86 => ?_) (fun h86 => ?_)
            · refine j_dload (p2 := 98) dM_halved_96 rfl rfl ?_
              refine j_dstore (p2 := 100) (lv' := [(0, _), (1, _), (2, _), (3, _), (5, _), (8, _)]) dM_halved_98 rfl (Nat.le_of_ble_eq_true rfl) ⟨rfl, rfl, rfl, rfl, rfl, rfl, trivial⟩ ?_
              refine j_dload (p2 := 102) dM_halved_100 rfl rfl ?_
              refine j_dload_n (p2 := 103) dM_halved_102 rfl rfl ?_
              refine j_dcmp_l_le (p1 := 104) (p2 := 107) (tg := 112) dM_halved_103 rfl dM_halved_104 rfl (by decide) (fun h103 => ?_) (fun h103 => ?_)
              · refine j_dload_n (p2 := 113) dM_halved_112 rfl rfl ?_
                refine j_dstore_n (p2 := 114) (lv' := [(0, _), (1, _), (2, _), (3, _), (5, _)]) dM_halved_113 rfl (Nat.le_of_ble_eq_true rfl) ⟨rfl, rfl, rfl, rfl, rfl, trivial⟩ ?_
                refine j_iinc (p2 := 117) (lv' := [(0, _), (1, _), (2, _), (3, _), (5, _)]) dM_halved_114 rfl (Nat.le_of_ble_eq_true rfl) rfl ⟨rfl, rfl, rfl, rfl, rfl, trivial⟩ ?_
                refine j_goto (p2 := 36) dM_halved_117 (by decide) ?_
                refine J.loc (lv' := [(0, _), (1, _), (2, _), (3, _), (5, _)]) ⟨rfl, rfl, rfl, rfl, rfl, trivial⟩ ?_
                exact nxt _ (ggp_s _ (by first | exact Or.inl ⟨h86, rfl⟩ | exact Or.inr ⟨h86, rfl⟩) (by first | exact Or.inl ⟨h103, rfl⟩ | exact Or.inr ⟨h103, rfl⟩)) t2 w2 bW bV
              · refine j_dload (p2 := 109) dM_halved_107 rfl rfl ?_
                refine j_goto (p2 := 113) dM_halved_109 (by decide) ?_
                refine j_dstore_n (p2 := 114) (lv' := [(0, _), (1, _), (2, _), (3, _), (5, _)]) dM_halved_113 rfl (Nat.le_of_ble_eq_true rfl) ⟨rfl, rfl, rfl, rfl, rfl, trivial⟩ ?_
                refine j_iinc (p2 := 117) (lv' := [(0, _), (1, _), (2, _), (3, _), (5, _)]) dM_halved_114 rfl (Nat.le_of_ble_eq_true rfl) rfl ⟨rfl, rfl, rfl, rfl, rfl, trivial⟩ ?_
                refine j_goto (p2 := 36) dM_halved_117 (by decide) ?_
                refine J.loc (lv' := [(0, _), (1, _), (2, _), (3, _), (5, _)]) ⟨rfl, rfl, rfl, rfl, rfl, trivial⟩ ?_
                exact nxt _ (ggp_s _ (by first | exact Or.inl ⟨h86, rfl⟩ | exact Or.inr ⟨h86, rfl⟩) (by first | exact Or.inl ⟨h103, rfl⟩ | exact Or.inr ⟨h103, rfl⟩)) t2 w2 bW bV
            · refine j_dload (p2 := 92) dM_halved_90 rfl rfl ?_
              refine j_dneg (p2 := 93) dM_halved_92 rfl ?_
              refine j_goto (p2 := 98) dM_halved_93 (by decide) ?_
              refine j_dstore (p2 := 100) (lv' := [(0, _), (1, _), (2, _), (3, _), (5, _), (8, _)]) dM_halved_98 rfl (Nat.le_of_ble_eq_true rfl) ⟨rfl, rfl, rfl, rfl, rfl, rfl, trivial⟩ ?_
              refine j_dload (p2 := 102) dM_halved_100 rfl rfl ?_
              refine j_dload_n (p2 := 103) dM_halved_102 rfl rfl ?_
              refine j_dcmp_l_le (p1 := 104) (p2 := 107) (tg := 112) dM_halved_103 rfl dM_halved_104 rfl (by decide) (fun h103 => ?_) (fun h103 => ?_)
              · refine j_dload_n (p2 := 113) dM_halved_112 rfl rfl ?_
                refine j_dstore_n (p2 := 114) (lv' := [(0, _), (1, _), (2, _), (3, _), (5, _)]) dM_halved_113 rfl (Nat.le_of_ble_eq_true rfl) ⟨rfl, rfl, rfl, rfl, rfl, trivial⟩ ?_
                refine j_iinc (p2 := 117) (lv' := [(0, _), (1, _), (2, _), (3, _), (5, _)]) dM_halved_114 rfl (Nat.le_of_ble_eq_true rfl) rfl ⟨rfl, rfl, rfl, rfl, rfl, trivial⟩ ?_
                refine j_goto (p2 := 36) dM_halved_117 (by decide) ?_
                refine J.loc (lv' := [(0, _), (1, _), (2, _), (3, _), (5, _)]) ⟨rfl, rfl, rfl, rfl, rfl, trivial⟩ ?_
                exact nxt _ (ggp_s _ (by first | exact Or.inl ⟨h86, rfl⟩ | exact Or.inr ⟨h86, rfl⟩) (by first | exact Or.inl ⟨h103, rfl⟩ | exact Or.inr ⟨h103, rfl⟩)) t2 w2 bW bV
              · refine j_dload (p2 := 109) dM_halved_107 rfl rfl ?_
                refine j_goto (p2 := 113) dM_halved_109 (by decide) ?_
                refine j_dstore_n (p2 := 114) (lv' := [(0, _), (1, _), (2, _), (3, _), (5, _)]) dM_halved_113 rfl (Nat.le_of_ble_eq_true rfl) ⟨rfl, rfl, rfl, rfl, rfl, trivial⟩ ?_
                refine j_iinc (p2 := 117) (lv' := [(0, _), (1, _), (2, _), (3, _), (5, _)]) dM_halved_114 rfl (Nat.le_of_ble_eq_true rfl) rfl ⟨rfl, rfl, rfl, rfl, rfl, trivial⟩ ?_
                refine j_goto (p2 := 36) dM_halved_117 (by decide) ?_
                refine J.loc (lv' := [(0, _), (1, _), (2, _), (3, _), (5, _)]) ⟨rfl, rfl, rfl, rfl, rfl, trivial⟩ ?_
                exact nxt _ (ggp_s _ (by first | exact Or.inl ⟨h86, rfl⟩ | exact Or.inr ⟨h86, rfl⟩) (by first | exact Or.inl ⟨h103, rfl⟩ | exact Or.inr ⟨h103, rfl⟩)) t2 w2 bW bV
      refine j_dconst0 (p2 := 32) dM_halved_31 rfl ?_
      refine j_dstore_n (p2 := 33) (lv' := [(0, _), (1, _), (2, _), (3, _)]) dM_halved_32 rfl (Nat.le_of_ble_eq_true rfl) ⟨rfl, rfl, rfl, rfl, trivial⟩ ?_
      refine j_iconst (p2 := 34) dM_halved_33 rfl ?_
      refine j_istore (p2 := 36) (lv' := [(0, _), (1, _), (2, _), (3, _), (5, _)]) dM_halved_34 rfl (Nat.le_of_ble_eq_true rfl) ⟨rfl, rfl, rfl, rfl, rfl, trivial⟩ ?_
      refine J.loc (lv' := [(0, _), (1, _), (2, _), (3, _), (5, _)]) ⟨rfl, rfl, rfl, rfl, rfl, trivial⟩ ?_
      exact loop j 0 (by omega) t1 (fun h => absurd h (by omega)) (fun x hx => absurd hx (by omega))
    refine j_aload_n (p2 := 28) dM_halved_27 rfl rfl ?_
    refine j_callV (m' := mM_keep) (As := []) (p2 := 31) dM_halved_28 rfl ml_M_365 ok_mM_keep im_mM_keep se_mM_keep rfl rfl (Nat.le_of_ble_eq_true rfl) ly_69 rfl (Nat.le_of_ble_eq_true rfl) ⟨(Nat.le_of_ble_eq_true rfl), (Nat.le_of_ble_eq_true rfl)⟩ ?_
    refine cM_keep ?_
    refine J.loc (lv' := [(0, _), (1, _), (2, _)]) ⟨rfl, rfl, rfl, trivial⟩ ?_
    exact go
  refine j_aload_n (p2 := 1) dM_halved_0 rfl rfl ?_
  refine j_iload_n (p2 := 2) dM_halved_1 rfl rfl ?_
  refine j_callV (m' := mM_isModule) (As := [_]) (p2 := 5) dM_halved_2 rfl ml_M_198 ok_mM_isModule im_mM_isModule se_mM_isModule rfl rfl (Nat.le_of_ble_eq_true rfl) ly_69 rfl (Nat.le_of_ble_eq_true rfl) ⟨(Nat.le_of_ble_eq_true rfl), (Nat.le_of_ble_eq_true rfl)⟩ ?_
  refine cM_isModule hq s1 ?_
  refine j_ifb_eq (p2 := 8) (tg := 25) dM_halved_5 rfl (by decide) (fun h5 => ?_) (fun h5 => ?_)
  · refine j_lconst (v := 0) (p2 := 26) dM_halved_25 rfl rfl ?_
    refine j_lreturn dM_halved_26 rfl (by first | (have g := of_decide_eq_false h5; exact h1 (fun z => g z.1)) | (have g := of_decide_eq_false h15; exact h1 (fun z => g z.2.1)) | exact h1 (fun z => z.2.2 h22))
  · refine j_iload_n (p2 := 9) dM_halved_8 rfl rfl ?_
    refine j_iconst (p2 := 10) dM_halved_9 rfl ?_
    refine j_bipush (v := 20) (p2 := 12) dM_halved_10 rfl rfl ?_
    refine j_callS (m' := mM_in) (As := [_, _, _]) (p2 := 15) dM_halved_12 rfl ml_M_161 ok_mM_in sm_mM_in rfl rfl (Nat.le_of_ble_eq_true rfl) (Nat.le_of_ble_eq_true rfl) ⟨(Nat.le_of_ble_eq_true rfl), (Nat.le_of_ble_eq_true rfl)⟩ ?_
    refine cM_in hn (by constructor <;> omega) (by constructor <;> omega) ?_
    refine j_ifb_eq (p2 := 18) (tg := 25) dM_halved_15 rfl (by decide) (fun h15 => ?_) (fun h15 => ?_)
    · refine j_lconst (v := 0) (p2 := 26) dM_halved_25 rfl rfl ?_
      refine j_lreturn dM_halved_26 rfl (by first | (have g := of_decide_eq_false h5; exact h1 (fun z => g z.1)) | (have g := of_decide_eq_false h15; exact h1 (fun z => g z.2.1)) | exact h1 (fun z => z.2.2 h22))
    · refine j_aload_n (p2 := 19) dM_halved_18 rfl rfl ?_
      refine j_getIk (p2 := 22) dM_halved_19 rfl fa_M_195 ly_69 rfl (ki := 11) rfl ?_
      refine j_if_ne (p2 := 25) (tg := 27) dM_halved_22 rfl (by decide) (by constructor <;> omega) (fun h22 => ?_) (fun h22 => ?_)
      · refine J.loc (lv' := [(0, _), (1, _), (2, _)]) ⟨rfl, rfl, rfl, trivial⟩ ?_
        exact at27 (dec_t h5) (dec_t h15) h22
      · refine j_lconst (v := 0) (p2 := 26) dM_halved_25 rfl rfl ?_
        refine j_lreturn dM_halved_26 rfl (by first | (have g := of_decide_eq_false h5; exact h1 (fun z => g z.1)) | (have g := of_decide_eq_false h15; exact h1 (fun z => g z.2.1)) | exact h1 (fun z => z.2.2 h22))
end RHV
