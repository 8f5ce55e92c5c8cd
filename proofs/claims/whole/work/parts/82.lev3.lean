/-! ===== the class's levels: refresh, isOnCircle ===== -/
/-- the levels are right -/
abbrev LevR (σ : Hp) (fr : Int → Int) (N : Nat) : Prop := (∀ k : Int, 0 ≤ k → k < N → hI σ 16 k = lvC (hI σ 4) fr N k) ∧ (∀ m : Int, 0 ≤ m → m < N → ∃ M : Nat, hI σ 18 m = M ∧ MskS (hI σ 4) fr m M) ∧ OrdC σ (ords (lvC (hI σ 4) fr N) N) N
theorem lvC_b {kd fr : Int → Int} {N : Nat} (hc : CdN fr N) : ∀ k : Int, 0 ≤ k → k < N → -1 ≤ lvC kd fr N k ∧ lvC kd fr N k ≤ N := fun k a b => by
  have := (lvs_J (kd := kd) (lv := fun _ => 0) hc).2.2 k a b
  have h2 := cnt_b (lvs kd fr (fun _ => 0) N) N
  show -1 ≤ lvs kd fr (fun _ => 0) N k ∧ lvs kd fr (fun _ => 0) N k ≤ N
  omega
theorem ords_ok {lv : Int → Int} {N : Nat} (hl : ∀ k : Int, 0 ≤ k → k < N → lv k ≤ N) : (ords lv N).length ≤ N ∧ ∀ i : Nat, ∀ x : Int, (ords lv N)[i]? = some x → 0 ≤ x ∧ x < N := by
  refine ⟨?_, fun i x h => (ords_mem.mp (List.mem_of_getElem? h)).1⟩
  rw [← ordl_ords hl]; exact row_room2
theorem CtI.cd {σ : Hp} {fr : Int → Int} {N : Nat} (h : CtI σ fr N) : CdN fr N := fun m a b j c d => (h.2.2.2 m j a b c d).2.1
section LEV3
variable {σ : Hp} {Q : Option PV → Hp → Prop}
theorem rf_a {fr : Int → Int} {N : Nat} (hc : CtI σ fr N) (hQ : ∀ a : Int → Int, (∀ m : Int, 0 ≤ m → m < N → ∃ M : Nat, a m = M ∧ MskS (hI σ 4) fr m M) → J mV_refresh 85 [(0, vR 15)] [] (wI (wI σ 16 (lv0 (hI σ 4) (hI σ 16) N)) 18 a) Q) : J mV_refresh 21 [(0, vR 15), (1, vI 0)] [] σ Q := by
  have hN := hc.1
  have hN2 := hc.2.1
  have s_s : ∀ {a b c d : Int → Int}, wI (wI (wI (wI σ 16 a) 18 b) 16 c) 18 d = wI (wI σ 16 c) 18 d := fun {a b c d} => by
    apply hp_ext <;> intro x <;> simp only [hI_wI, hI_wL, hI_wF, hI_wD, hL_wI, hL_wL, hL_wF, hL_wD, hF_wI, hF_wL, hF_wF, hF_wD, hD_wI, hD_wL, hD_wF, hD_wD]
    by_cases h1 : x = 16 <;> by_cases h2 : x = 18 <;> simp_all
  have loop : ∀ (n i : Nat), i ≤ N → N + 1 ≤ i + n → ∀ a : Int → Int, (∀ m : Int, 0 ≤ m → m < i → ∃ M : Nat, a m = M ∧ MskS (hI σ 4) fr m M) → J mV_refresh 21 [(0, vR 15), (1, vI i)] [] (wI (wI σ 16 (pw (hI σ 16) (fun m => if rem (hI σ 4 m) then 0 else -1) i)) 18 a) Q := by
    intro n
    induction n with
    | zero => intro i h1 h2; exact absurd h2 (by omega)
    | succ n ih =>
      intro i h1 h2 a ha
      obtain ⟨τ, hτ⟩ : ∃ τ, τ = wI (wI σ 16 (pw (hI σ 16) (fun m => if rem (hI σ 4 m) then 0 else -1) i)) 18 a := ⟨_, rfl⟩
      have eN : hI τ 3 0 = N := by rw [hτ]; exact hN
      have e4 : hI τ 4 = hI σ 4 := by rw [hτ]; rfl
      have e16 : hI τ 16 = pw (hI σ 16) (fun m => if rem (hI σ 4 m) then 0 else -1) i := by rw [hτ]; rfl
      have e18 : hI τ 18 = a := by rw [hτ]; rfl
      have kb : i < N → inR (hI σ 4 i) := fun z => by have := hc.2.2.1 i (by omega) (by omega); constructor <;> omega
      have nxt : i < N → ∀ (x : Int) (M : Nat), (if rem (hI σ 4 i) then 0 else -1) = x → MskS (hI σ 4) fr i M → J mV_refresh 21 [(0, vR 15), (1, vI (i + 1))] [] (wI (wI τ 16 (fup (hI τ 16) i x)) 18 (fup (hI τ 18) i (M : Int))) Q := fun z x M hx hM => by
        rw [e16, e18, hτ, s_s, ← hx]
        have e2 := pw_s (hI σ 16) (fun m => if rem (hI σ 4 m) then 0 else -1) i
        rw [e2]
        refine ih (i + 1) (by omega) (by omega) _ (fun m p q => ?_)
        by_cases e : m = i
        · subst e; rw [fup_s]; exact ⟨M, rfl, hM⟩
        · rw [fup_n e]; exact ha m p (by omega)
      have fin : i = N → J mV_refresh 85 [(0, vR 15)] [] τ Q := fun e => by
        subst e
        rw [hτ]
        exact hQ a ha
      clear ih
      rw [← hτ]
      have m0 : i < N → rem (hI σ 4 i) → MskS (hI σ 4) fr i 0 := fun z hr => ⟨by decide, fun s => by
        rw [Nat.zero_testBit]
        constructor
        · intro h; cases h
        · intro h; exact absurd hr h.1⟩
      have hcx : ∀ y, CtI (wI τ 16 y) fr N := fun y => by rw [hτ]; exact hc
      refine j_iload_n (p2 := 22) dV_refresh_21 rfl rfl ?_
      refine j_aload_n (p2 := 23) dV_refresh_22 rfl rfl ?_
      refine j_getR (p2 := 26) dV_refresh_23 rfl fa_V_21 ly_15 rfl ?_
      refine j_getIk (p2 := 29) dV_refresh_26 rfl fa_V_31 ly_3 rfl (ki := 0) rfl ?_
      refine j_icmp_ge (p2 := 32) (tg := 85) dV_refresh_29 rfl (by decide) (by constructor <;> omega) (by rw [eN]; constructor <;> omega) (fun h29 => ?_) (fun h29 => ?_)
      · refine J.loc (lv' := [(0, _)]) ⟨rfl, trivial⟩ ?_
        rw [eN] at h29
        exact fin (by omega)
      · refine j_aload_n (p2 := 33) dV_refresh_32 rfl rfl ?_
        refine j_getR (p2 := 36) dV_refresh_33 rfl fa_V_21 ly_15 rfl ?_
        refine j_getR (p2 := 39) dV_refresh_36 rfl fa_V_35 ly_3 rfl ?_
        refine j_iload_n (p2 := 40) dV_refresh_39 rfl rfl ?_
        refine j_iald (p2 := 41) dV_refresh_40 rfl ly_4 (by decide) (by omega) (by rw [eN] at h29; omega) ?_
        refine j_callS (m' := mP_remembers) (As := [_]) (p2 := 44) dV_refresh_41 rfl ml_V_38 ok_mP_remembers sm_mP_remembers rfl rfl (Nat.le_of_ble_eq_true rfl) (Nat.le_of_ble_eq_true rfl) ⟨(Nat.le_of_ble_eq_true rfl), (Nat.le_of_ble_eq_true rfl)⟩ ?_
        rw [eN] at h29
        rw [e4]
        refine cP_remembers (kb (by omega)) ?_
        refine j_istore_n (p2 := 45) (lv' := [(0, _), (1, _), (2, _)]) dV_refresh_44 rfl (Nat.le_of_ble_eq_true rfl) ⟨rfl, rfl, rfl, trivial⟩ ?_
        refine J.loc (lv' := [(0, _), (1, _), (2, _)]) ⟨rfl, rfl, rfl, trivial⟩ ?_
        refine j_aload_n (p2 := 46) dV_refresh_45 rfl rfl ?_
        refine j_getR (p2 := 49) dV_refresh_46 rfl fa_V_9 ly_15 rfl ?_
        refine j_iload_n (p2 := 50) dV_refresh_49 rfl rfl ?_
        refine j_iload_n (p2 := 51) dV_refresh_50 rfl rfl ?_
        refine j_ifb_eq (p2 := 54) (tg := 58) dV_refresh_51 rfl (by decide) (fun h51 => ?_) (fun h51 => ?_)
        · refine j_iconst (p2 := 59) dV_refresh_58 rfl ?_
          refine j_iastk (p2 := 60) dV_refresh_59 rfl ly_16 (by decide) (by omega) (by omega) ?_
          refine j_aload_n (p2 := 61) dV_refresh_60 rfl rfl ?_
          refine j_getR (p2 := 64) dV_refresh_61 rfl fa_V_18 ly_15 rfl ?_
          refine j_iload_n (p2 := 65) dV_refresh_64 rfl rfl ?_
          refine j_iload_n (p2 := 66) dV_refresh_65 rfl rfl ?_
          refine j_ifb_eq (p2 := 69) (tg := 73) dV_refresh_66 rfl (by decide) (fun h66 => ?_) (fun h66 => ?_)
          · refine j_aload_n (p2 := 74) dV_refresh_73 rfl rfl ?_
            refine j_iload_n (p2 := 75) dV_refresh_74 rfl rfl ?_
            refine j_callV (m' := mV_sourcesOf) (As := [_]) (p2 := 78) dV_refresh_75 rfl ml_V_42 ok_mV_sourcesOf im_mV_sourcesOf se_mV_sourcesOf rfl rfl (Nat.le_of_ble_eq_true rfl) ly_15 rfl (Nat.le_of_ble_eq_true rfl) ⟨(Nat.le_of_ble_eq_true rfl), (Nat.le_of_ble_eq_true rfl)⟩ ?_
            have hr := of_decide_eq_false h66
            have e4b : ∀ y, hI (wI τ 16 y) 4 = hI σ 4 := fun y => e4
            refine cV_sourcesOf (hcx _) (by omega) (by rw [e4b]; exact hr) (fun M hM => ?_)
            rw [e4b] at hM
            refine j_iastk (p2 := 79) dV_refresh_78 rfl ly_18 (by decide) (by omega) (by omega) ?_
            refine j_iinc (p2 := 82) (lv' := [(0, _), (1, _)]) dV_refresh_79 rfl (Nat.le_of_ble_eq_true rfl) rfl ⟨rfl, rfl, trivial⟩ ?_
            refine j_goto (p2 := 21) dV_refresh_82 (by decide) ?_
            refine J.loc (lv' := [(0, _), (1, _)]) ⟨rfl, rfl, trivial⟩ ?_
            first
              | (have hr := dec_t h51
                 have hr2 := dec_t h66
                 exact nxt (by omega) 0 0 (by rw [if_pos hr]) (m0 (by omega) hr))
              | (have hr := of_decide_eq_false h51
                 have hr2 := of_decide_eq_false h66
                 exact nxt (by omega) (-1) M (by rw [if_neg hr]) hM)
              | (exfalso
                 have hr := dec_t h51
                 exact of_decide_eq_false h66 hr)
              | (exfalso
                 have hr := dec_t h66
                 exact of_decide_eq_false h51 hr)
          · refine j_iconst (p2 := 70) dV_refresh_69 rfl ?_
            refine j_goto (p2 := 78) dV_refresh_70 (by decide) ?_
            refine j_iastk (p2 := 79) dV_refresh_78 rfl ly_18 (by decide) (by omega) (by omega) ?_
            refine j_iinc (p2 := 82) (lv' := [(0, _), (1, _)]) dV_refresh_79 rfl (Nat.le_of_ble_eq_true rfl) rfl ⟨rfl, rfl, trivial⟩ ?_
            refine j_goto (p2 := 21) dV_refresh_82 (by decide) ?_
            refine J.loc (lv' := [(0, _), (1, _)]) ⟨rfl, rfl, trivial⟩ ?_
            first
              | (have hr := dec_t h51
                 have hr2 := dec_t h66
                 exact nxt (by omega) 0 0 (by rw [if_pos hr]) (m0 (by omega) hr))
              | (have hr := of_decide_eq_false h51
                 have hr2 := of_decide_eq_false h66
                 exact nxt (by omega) (-1) M (by rw [if_neg hr]) hM)
              | (exfalso
                 have hr := dec_t h51
                 exact of_decide_eq_false h66 hr)
              | (exfalso
                 have hr := dec_t h66
                 exact of_decide_eq_false h51 hr)
        · refine j_iconst (p2 := 55) dV_refresh_54 rfl ?_
          refine j_goto (p2 := 59) dV_refresh_55 (by decide) ?_
          refine j_iastk (p2 := 60) dV_refresh_59 rfl ly_16 (by decide) (by omega) (by omega) ?_
          refine j_aload_n (p2 := 61) dV_refresh_60 rfl rfl ?_
          refine j_getR (p2 := 64) dV_refresh_61 rfl fa_V_18 ly_15 rfl ?_
          refine j_iload_n (p2 := 65) dV_refresh_64 rfl rfl ?_
          refine j_iload_n (p2 := 66) dV_refresh_65 rfl rfl ?_
          refine j_ifb_eq (p2 := 69) (tg := 73) dV_refresh_66 rfl (by decide) (fun h66 => ?_) (fun h66 => ?_)
          · refine j_aload_n (p2 := 74) dV_refresh_73 rfl rfl ?_
            refine j_iload_n (p2 := 75) dV_refresh_74 rfl rfl ?_
            refine j_callV (m' := mV_sourcesOf) (As := [_]) (p2 := 78) dV_refresh_75 rfl ml_V_42 ok_mV_sourcesOf im_mV_sourcesOf se_mV_sourcesOf rfl rfl (Nat.le_of_ble_eq_true rfl) ly_15 rfl (Nat.le_of_ble_eq_true rfl) ⟨(Nat.le_of_ble_eq_true rfl), (Nat.le_of_ble_eq_true rfl)⟩ ?_
            have hr := of_decide_eq_false h66
            have e4b : ∀ y, hI (wI τ 16 y) 4 = hI σ 4 := fun y => e4
            refine cV_sourcesOf (hcx _) (by omega) (by rw [e4b]; exact hr) (fun M hM => ?_)
            rw [e4b] at hM
            refine j_iastk (p2 := 79) dV_refresh_78 rfl ly_18 (by decide) (by omega) (by omega) ?_
            refine j_iinc (p2 := 82) (lv' := [(0, _), (1, _)]) dV_refresh_79 rfl (Nat.le_of_ble_eq_true rfl) rfl ⟨rfl, rfl, trivial⟩ ?_
            refine j_goto (p2 := 21) dV_refresh_82 (by decide) ?_
            refine J.loc (lv' := [(0, _), (1, _)]) ⟨rfl, rfl, trivial⟩ ?_
            first
              | (have hr := dec_t h51
                 have hr2 := dec_t h66
                 exact nxt (by omega) 0 0 (by rw [if_pos hr]) (m0 (by omega) hr))
              | (have hr := of_decide_eq_false h51
                 have hr2 := of_decide_eq_false h66
                 exact nxt (by omega) (-1) M (by rw [if_neg hr]) hM)
              | (exfalso
                 have hr := dec_t h51
                 exact of_decide_eq_false h66 hr)
              | (exfalso
                 have hr := dec_t h66
                 exact of_decide_eq_false h51 hr)
          · refine j_iconst (p2 := 70) dV_refresh_69 rfl ?_
            refine j_goto (p2 := 78) dV_refresh_70 (by decide) ?_
            refine j_iastk (p2 := 79) dV_refresh_78 rfl ly_18 (by decide) (by omega) (by omega) ?_
            refine j_iinc (p2 := 82) (lv' := [(0, _), (1, _)]) dV_refresh_79 rfl (Nat.le_of_ble_eq_true rfl) rfl ⟨rfl, rfl, trivial⟩ ?_
            refine j_goto (p2 := 21) dV_refresh_82 (by decide) ?_
            refine J.loc (lv' := [(0, _), (1, _)]) ⟨rfl, rfl, trivial⟩ ?_
            first
              | (have hr := dec_t h51
                 have hr2 := dec_t h66
                 exact nxt (by omega) 0 0 (by rw [if_pos hr]) (m0 (by omega) hr))
              | (have hr := of_decide_eq_false h51
                 have hr2 := of_decide_eq_false h66
                 exact nxt (by omega) (-1) M (by rw [if_neg hr]) hM)
              | (exfalso
                 have hr := dec_t h51
                 exact of_decide_eq_false h66 hr)
              | (exfalso
                 have hr := dec_t h66
                 exact of_decide_eq_false h51 hr)
  have start := loop (N + 1) 0 (by omega) (by omega) (hI σ 18) (fun m p q => absurd q (by omega))
  have e0 : wI (wI σ 16 (pw (hI σ 16) (fun m => if rem (hI σ 4 m) then 0 else -1) 0)) 18 (hI σ 18) = σ := by
    rw [pw_0, wI_id]; exact wI_id σ 18
  rw [e0] at start
  exact start
theorem rf_b {fr : Int → Int} {N : Nat} {lv : Int → Int} (hN : hI σ 3 0 = N ∧ N ≤ 20) (hc : CdN fr N) (hJ : LvJ (hI σ 4) fr lv N) (hM : ∀ m : Int, 0 ≤ m → m < N → ∃ M : Nat, hI σ 18 m = M ∧ MskS (hI σ 4) fr m M) (hQ : J mV_refresh 144 [(0, vR 15)] [] (wI σ 16 (lvT fr lv N N)) Q) : J mV_refresh 87 [(0, vR 15), (1, vI 0)] [] (wI σ 16 lv) Q := by
  obtain ⟨hN, hN2⟩ := hN
  have inner : ∀ (t : Nat) (l : Int → Int), t < N → LvJ (hI σ 4) fr l N → J mV_refresh 87 [(0, vR 15), (1, vI (t + 1))] [] (wI σ 16 (lvP fr l N)) Q → ∀ (n i : Nat), i ≤ N → N + 1 ≤ i + n → J mV_refresh 100 [(0, vR 15), (1, vI t), (2, vI i)] [] (wI σ 16 (lvP fr l i)) Q := by
    intro t l ht hJ2 kk n
    induction n with
    | zero => intro i h1 h2; exact absurd h2 (by omega)
    | succ n ih =>
      intro i h1 h2
      have hJi := lvP_J hc hJ2 i h1
      obtain ⟨u, hu⟩ : ∃ u, u = lvP fr l i := ⟨_, rfl⟩
      rw [← hu] at hJi ⊢
      have eN : hI (wI σ 16 u) 3 0 = N := hN
      have e16 : hI (wI σ 16 u) 16 = u := rfl
      have hcb := cnt_b u N
      have ub : i < N → -1 ≤ u i ∧ u i ≤ 20 := fun z => by have := hJi.2.2 i (by omega) (by omega); omega
      have ih2 : i < N → J mV_refresh 100 [(0, vR 15), (1, vI t), (2, vI (i + 1))] [] (wI σ 16 (lvM fr u i)) Q := fun z => by
        have := ih (i + 1) (by omega) (by omega)
        have e : lvP fr l (i + 1) = lvM fr u i := by rw [hu]; rfl
        rw [e] at this; exact this
      have no : i < N → ¬ u i = -1 → J mV_refresh 100 [(0, vR 15), (1, vI t), (2, vI (i + 1))] [] (wI σ 16 u) Q := fun z g => by
        have := ih2 z
        unfold lvM at this
        rw [if_neg g] at this; exact this
      have yes : i < N → u i = -1 → J mV_refresh 100 [(0, vR 15), (1, vI t), (2, vI (i + 1))] [] (wI (wI σ 16 u) 16 (fup (hI (wI σ 16 u) 16) i (if (lvI fr u i 6).2 = true then (lvI fr u i 6).1 + 1 else -1))) Q := fun z g => by
        have := ih2 z
        unfold lvM at this
        rw [if_pos g] at this
        rw [wI_wI, e16]; exact this
      have hMi : i < N → ∃ M : Nat, hI σ 18 i = M ∧ MskS (hI σ 4) fr i M := fun z => hM i (by omega) (by omega)
      have hri : i < N → u i = -1 → ¬ rem (hI σ 4 i) := fun z g hr => by have := hJi.2.1 i (by omega) (by omega) hr; omega
      clear ih
      refine j_iload_n (p2 := 101) dV_refresh_100 rfl rfl ?_
      refine j_aload_n (p2 := 102) dV_refresh_101 rfl rfl ?_
      refine j_getR (p2 := 105) dV_refresh_102 rfl fa_V_21 ly_15 rfl ?_
      refine j_getIk (p2 := 108) dV_refresh_105 rfl fa_V_31 ly_3 rfl (ki := 0) rfl ?_
      refine j_icmp_ge (p2 := 111) (tg := 138) dV_refresh_108 rfl (by decide) (by constructor <;> omega) (by rw [eN]; constructor <;> omega) (fun h108 => ?_) (fun h108 => ?_)
      · refine j_iinc (p2 := 141) (lv' := [(0, _), (1, _)]) dV_refresh_138 rfl (Nat.le_of_ble_eq_true rfl) rfl ⟨rfl, rfl, trivial⟩ ?_
        refine j_goto (p2 := 87) dV_refresh_141 (by decide) ?_
        refine J.loc (lv' := [(0, _), (1, _)]) ⟨rfl, rfl, trivial⟩ ?_
        rw [eN] at h108
        have e : i = N := by omega
        subst e
        rw [hu]
        exact kk
      · refine j_aload_n (p2 := 112) dV_refresh_111 rfl rfl ?_
        refine j_getR (p2 := 115) dV_refresh_112 rfl fa_V_9 ly_15 rfl ?_
        refine j_iload_n (p2 := 116) dV_refresh_115 rfl rfl ?_
        refine j_iald (p2 := 117) dV_refresh_116 rfl ly_16 (by decide) (by omega) (by rw [eN] at h108; omega) ?_
        refine j_iconst (p2 := 118) dV_refresh_117 rfl ?_
        refine j_icmp_ne (p2 := 121) (tg := 132) dV_refresh_118 rfl (by decide) (by rw [eN] at h108; rw [e16]; have := ub (by omega); constructor <;> omega) (by constructor <;> omega) (fun h118 => ?_) (fun h118 => ?_)
        · refine j_iinc (p2 := 135) (lv' := [(0, _), (1, _), (2, _)]) dV_refresh_132 rfl (Nat.le_of_ble_eq_true rfl) rfl ⟨rfl, rfl, rfl, trivial⟩ ?_
          refine j_goto (p2 := 100) dV_refresh_135 (by decide) ?_
          refine J.loc (lv' := [(0, _), (1, _), (2, _)]) ⟨rfl, rfl, rfl, trivial⟩ ?_
          first
            | (have g : ¬ u i = -1 := h118
               rw [eN] at h108
               exact no (by omega) g)
            | (have g : u i = -1 := h118
               exact yes (by omega) g)
        · refine j_aload_n (p2 := 122) dV_refresh_121 rfl rfl ?_
          refine j_getR (p2 := 125) dV_refresh_122 rfl fa_V_9 ly_15 rfl ?_
          refine j_iload_n (p2 := 126) dV_refresh_125 rfl rfl ?_
          refine j_aload_n (p2 := 127) dV_refresh_126 rfl rfl ?_
          refine j_iload_n (p2 := 128) dV_refresh_127 rfl rfl ?_
          refine j_callV (m' := mV_levelBehindSources) (As := [_]) (p2 := 131) dV_refresh_128 rfl ml_V_46 ok_mV_levelBehindSources im_mV_levelBehindSources se_mV_levelBehindSources rfl rfl (Nat.le_of_ble_eq_true rfl) ly_15 rfl (Nat.le_of_ble_eq_true rfl) ⟨(Nat.le_of_ble_eq_true rfl), (Nat.le_of_ble_eq_true rfl)⟩ ?_
          rw [eN] at h108
          have g : u i = -1 := h118
          obtain ⟨M, hM1, hM2⟩ := hMi (by omega)
          refine cV_levelBehindSources (σ := wI σ 16 u) (kd := hI σ 4) (fr := fr) (N := N) (M := M) ⟨hN, hN2⟩ (by omega) (hri (by omega) g) hc ⟨hM1, hM2⟩ hJi.2.2 ?_
          refine j_iastk (p2 := 132) dV_refresh_131 rfl ly_16 (by decide) (by omega) (by omega) ?_
          refine j_iinc (p2 := 135) (lv' := [(0, _), (1, _), (2, _)]) dV_refresh_132 rfl (Nat.le_of_ble_eq_true rfl) rfl ⟨rfl, rfl, rfl, trivial⟩ ?_
          refine j_goto (p2 := 100) dV_refresh_135 (by decide) ?_
          refine J.loc (lv' := [(0, _), (1, _), (2, _)]) ⟨rfl, rfl, rfl, trivial⟩ ?_
          first
            | (have g : ¬ u i = -1 := h118
               rw [eN] at h108
               exact no (by omega) g)
            | (have g : u i = -1 := h118
               exact yes (by omega) g)
  have outer : ∀ (n t : Nat), t ≤ N → N + 1 ≤ t + n → J mV_refresh 87 [(0, vR 15), (1, vI t)] [] (wI σ 16 (lvT fr lv N t)) Q := by
    intro n
    induction n with
    | zero => intro t h1 h2; exact absurd h2 (by omega)
    | succ n ih =>
      intro t h1 h2
      have eN : hI (wI σ 16 (lvT fr lv N t)) 3 0 = N := hN
      have inn := fun z : t < N => inner t (lvT fr lv N t) z (lvT_J hc hJ t) (ih (t + 1) (by omega) (by omega)) (N + 1) 0 (by omega) (by omega)
      refine j_iload_n (p2 := 88) dV_refresh_87 rfl rfl ?_
      refine j_aload_n (p2 := 89) dV_refresh_88 rfl rfl ?_
      refine j_getR (p2 := 92) dV_refresh_89 rfl fa_V_21 ly_15 rfl ?_
      refine j_getIk (p2 := 95) dV_refresh_92 rfl fa_V_31 ly_3 rfl (ki := 0) rfl ?_
      refine j_icmp_ge (p2 := 98) (tg := 144) dV_refresh_95 rfl (by decide) (by constructor <;> omega) (by rw [eN]; constructor <;> omega) (fun h95 => ?_) (fun h95 => ?_)
      · refine J.loc (lv' := [(0, _)]) ⟨rfl, trivial⟩ ?_
        rw [eN] at h95
        have e : t = N := by omega
        subst e
        exact hQ
      · refine j_iconst (p2 := 99) dV_refresh_98 rfl ?_
        refine j_istore_n (p2 := 100) (lv' := [(0, _), (1, _), (2, _)]) dV_refresh_99 rfl (Nat.le_of_ble_eq_true rfl) ⟨rfl, rfl, rfl, trivial⟩ ?_
        refine J.loc (lv' := [(0, _), (1, _), (2, _)]) ⟨rfl, rfl, rfl, trivial⟩ ?_
        rw [eN] at h95
        exact inn (by omega)
  exact outer (N + 1) 0 (by omega) (by omega)
theorem cV_refresh {fr : Int → Int} {N : Nat} (hc : CtI σ fr N) (h01 : hI σ 3 3 = 0 ∨ hI σ 3 3 = 1) (hf : hI σ 3 3 = 0 → LevR σ fr N) (hQ : ∀ τ, Fq [3, 15, 16, 17, 18] σ τ → (∀ k : Int, ¬ k = 3 → hI τ 3 k = hI σ 3 k) → hI τ 3 3 = 0 → hD τ 3 = hD σ 3 → LevR τ fr N → Q none τ) : Sp mV_refresh [vR 15] σ Q := by
  have hcd := hc.cd
  have at144 : ∀ τ, Fq [3, 16, 18] σ τ → (∀ k : Int, ¬ k = 3 → hI τ 3 k = hI σ 3 k) → hI τ 3 3 = 0 → hD τ 3 = hD σ 3 → (∀ k : Int, 0 ≤ k → k < N → hI τ 16 k = lvC (hI σ 4) fr N k) → (∀ m : Int, 0 ≤ m → m < N → ∃ M : Nat, hI τ 18 m = M ∧ MskS (hI σ 4) fr m M) → J mV_refresh 144 [(0, vR 15)] [] τ Q := by
    intro τ F h3 h33 hd3 h16 h18
    have e4 := F.I (c := 4) (by decide)
    have hb := lvC_b (kd := hI σ 4) hcd
    have ho : ordl (hI τ 16) N (N + 1) = ords (lvC (hI σ 4) fr N) N := by
      rw [ordl_ag (lv' := lvC (hI σ 4) fr N) h16]
      exact ordl_ords (fun k a b => (hb k a b).2)
    have hok := ords_ok (lv := lvC (hI σ 4) fr N) (fun k a b => (hb k a b).2)
    have hN2 := hc.2.1
    refine j_aload_n (p2 := 145) dV_refresh_144 rfl rfl ?_
    refine j_callV (m' := mV_sort) (As := []) (p2 := 148) dV_refresh_145 rfl ml_V_49 ok_mV_sort im_mV_sort se_mV_sort rfl rfl (Nat.le_of_ble_eq_true rfl) ly_15 rfl (Nat.le_of_ble_eq_true rfl) ⟨(Nat.le_of_ble_eq_true rfl), (Nat.le_of_ble_eq_true rfl)⟩ ?_
    refine cV_sort (N := N) ⟨by rw [h3 0 (by decide)]; exact hc.1, hc.2.1⟩ (fun k a b => by rw [h16 k a b]; have := hb k a b; omega) (fun a ha => ?_)
    rw [ho] at ha ⊢
    refine j_return dV_refresh_148 rfl (by
      refine hQ _ ((F.weak (by decide)).trans ((Fq.rf.wI (by decide)).wI (by decide))) h3 h33 hd3 ⟨?_, ?_, ?_, ?_, ?_⟩
      · show ∀ k : Int, 0 ≤ k → k < N → hI τ 16 k = lvC (hI τ 4) fr N k
        rw [e4]; exact h16
      · show ∀ m : Int, 0 ≤ m → m < N → ∃ M : Nat, hI τ 18 m = M ∧ MskS (hI τ 4) fr m M
        rw [e4]; exact h18
      · show (fup (hI τ 15) 3 ((ords (lvC (hI σ 4) fr N) N).length : Int)) 3 = ((ords (lvC (hI τ 4) fr N) N).length : Int)
        rw [fup_s, e4]
      · show (ords (lvC (hI τ 4) fr N) N).length ≤ 20
        rw [e4]; omega
      · show ∀ i : Nat, ∀ x : Int, (ords (lvC (hI τ 4) fr N) N)[i]? = some x → a i = x ∧ 0 ≤ x ∧ x < N
        rw [e4]
        exact fun i x h => ⟨ha i x h, hok.2 i x h⟩)
  have at21 : J mV_refresh 21 [(0, vR 15), (1, vI 0)] [] (wI σ 3 (fup (hI σ 3) 3 0)) Q := by
    obtain ⟨τ, hτ⟩ : ∃ τ, τ = wI σ 3 (fup (hI σ 3) 3 0) := ⟨_, rfl⟩
    have F : Fq [3] σ τ := by rw [hτ]; exact Fq.rf.wI (by decide)
    have h3 : hI τ 3 = fup (hI σ 3) 3 0 := by rw [hτ]; rfl
    have e4 : hI τ 4 = hI σ 4 := F.I (by decide)
    have hcτ : CtI τ fr N := by
      unfold CtI at hc ⊢
      rw [h3, fup_n (by decide), e4, F.I (c := 9) (by decide), F.I (c := 10) (by decide)]; exact hc
    rw [← hτ]
    refine rf_a hcτ (fun a ha => ?_)
    have e0 : wI (wI τ 16 (lv0 (hI τ 4) (hI τ 16) N)) 18 a = wI (wI τ 18 a) 16 (lv0 (hI τ 4) (hI τ 16) N) := by
      apply hp_ext <;> intro x <;> simp only [hI_wI, hI_wL, hI_wF, hI_wD, hL_wI, hL_wL, hL_wF, hL_wD, hF_wI, hF_wL, hF_wF, hF_wD, hD_wI, hD_wL, hD_wF, hD_wD]
      by_cases h1 : x = 16 <;> by_cases h2 : x = 18 <;> simp_all
    rw [e0]
    have fin : J mV_refresh 144 [(0, vR 15)] [] (wI (wI τ 18 a) 16 (lvT fr (lv0 (hI τ 4) (hI τ 16) N) N N)) Q := by
      refine at144 _ ((F.weak (by decide)).trans ((Fq.rf.wI (by decide)).wI (by decide))) (fun k hk => ?_) ?_ (by rw [hτ]; rfl) (fun k p q => ?_) ?_
      · show hI τ 3 k = _
        rw [h3, fup_n hk]
      · show hI τ 3 3 = 0
        rw [h3, fup_s]
      · show lvs (hI τ 4) fr (hI τ 16) N k = _
        rw [e4]
        exact lvs_ag hcd k p q
      · show ∀ m : Int, 0 ≤ m → m < N → ∃ M : Nat, a m = M ∧ MskS (hI σ 4) fr m M
        rw [← e4]; exact ha
    have hb := rf_b (σ := wI τ 18 a) (fr := fr) (N := N) (lv := lv0 (hI τ 4) (hI τ 16) N) ⟨hcτ.1, hcτ.2.1⟩ hcd (lv0_J (kd := hI τ 4)) ha fin
    refine j_iconst (p2 := 86) dV_refresh_85 rfl ?_
    refine j_istore_n (p2 := 87) (lv' := [(0, _), (1, _)]) dV_refresh_86 rfl (Nat.le_of_ble_eq_true rfl) ⟨rfl, rfl, trivial⟩ ?_
    refine J.loc (lv' := [(0, _), (1, _)]) ⟨rfl, rfl, trivial⟩ ?_
    exact hb
  refine j_aload_n (p2 := 1) dV_refresh_0 rfl rfl ?_
  refine j_getR (p2 := 4) dV_refresh_1 rfl fa_V_21 ly_15 rfl ?_
  refine j_getZk (p2 := 7) dV_refresh_4 rfl fa_V_25 ly_3 rfl (ki := 3) rfl ?_
  refine j_if_ne (p2 := 10) (tg := 11) dV_refresh_7 rfl (by decide) (by constructor <;> omega) (fun h7 => ?_) (fun h7 => ?_)
  · refine j_aload_n (p2 := 12) dV_refresh_11 rfl rfl ?_
    refine j_getR (p2 := 15) dV_refresh_12 rfl fa_V_21 ly_15 rfl ?_
    refine j_iconst (p2 := 16) dV_refresh_15 rfl ?_
    refine j_putZk (p2 := 19) dV_refresh_16 rfl fw_V_25 ly_3 rfl (ki := 3) rfl (Or.inl rfl) ?_
    refine j_iconst (p2 := 20) dV_refresh_19 rfl ?_
    refine j_istore_n (p2 := 21) (lv' := [(0, _), (1, _)]) dV_refresh_20 rfl (Nat.le_of_ble_eq_true rfl) ⟨rfl, rfl, trivial⟩ ?_
    refine J.loc (lv' := [(0, _), (1, _)]) ⟨rfl, rfl, trivial⟩ ?_
    exact at21
  · refine j_return dV_refresh_10 rfl (by exact hQ σ Fq.rf (fun _ _ => rfl) (by omega) rfl (hf (by omega)))
end LEV3
