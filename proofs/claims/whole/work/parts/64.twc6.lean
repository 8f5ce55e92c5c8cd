/-! ===== the class's twins: moving, adding, weighing ===== -/
abbrev MhD (h : UInt64) : Prop := mg h 1024
abbrev MhF (h : UInt32) : Prop := mf h 129
abbrev MkD (h : UInt64) : Prop := mg h 1060
abbrev MkF (h : UInt32) : Prop := mf h 160
abbrev MrD (h : UInt64) : Prop := mg h 1036
abbrev MrF (h : UInt32) : Prop := mf h 140
theorem mvD {h b k : UInt64} (hh : MhD h) (hb : BdD b) (hk : MkD k) : FnD (Amul arD h k) ∧ FnD (Aadd arD b (Amul arD h k)) := by
  have q1 : mg (Amul arD h k) 1100 := (mg_mul hh hk (by decide) (by decide)).mono (by decide)
  have q2 : mg (Aadd arD b (Amul arD h k)) 1102 := mg_add (hb.mono (by decide)) q1 (by decide)
  exact ⟨q1.fin (by decide), q2.fin (by decide)⟩
theorem mvF {h b k : UInt32} (hh : MhF h) (hb : BdF b) (hk : MkF k) : FnF (Amul arF h k) ∧ FnF (Aadd arF b (Amul arF h k)) := by
  have q1 : mf (Amul arF h k) 180 := (mf_mul2 hh hk (by decide) (by decide)).mono (by decide)
  have q2 : mf (Aadd arF b (Amul arF h k)) 182 := mf_add (hb.mono (by decide)) q1 (by decide)
  exact ⟨q1.fin (by decide), q2.fin (by decide)⟩
theorem wgD {a b c d : UInt64} (ha : MrD a) (hb : MrD b) (hc : MrD c) (hd : MrD d) : FnD (Amul arD (Ac arD 5) b) ∧ FnD (Aadd arD a (Amul arD (Ac arD 5) b)) ∧ FnD (Amul arD (Ac arD 5) c) ∧ FnD (Aadd arD (Aadd arD a (Amul arD (Ac arD 5) b)) (Amul arD (Ac arD 5) c)) ∧ FnD (Aadd arD (Aadd arD (Aadd arD a (Amul arD (Ac arD 5) b)) (Amul arD (Ac arD 5) c)) d) ∧ MkD (gwg arD a b c d) := by
  have q1 := mg_mul mg_c2 hb (by decide) (by decide)
  have q2 := mg_add (ha.mono (show _ ≤ 1040 by decide)) (q1.mono (by decide)) (by decide)
  have q3 := mg_mul mg_c2 hc (by decide) (by decide)
  have q4 := mg_add (q2.mono (show _ ≤ 1043 by decide)) (q3.mono (by decide)) (by decide)
  have q5 := mg_add (q4.mono (show _ ≤ 1046 by decide)) (hd.mono (by decide)) (by decide)
  have q6 := mg_div6 q5 (by decide)
  exact ⟨q1.fin (by decide), q2.fin (by decide), q3.fin (by decide), q4.fin (by decide), q5.fin (by decide), q6.mono (by decide)⟩
theorem wgF {a b c d : UInt32} (ha : MrF a) (hb : MrF b) (hc : MrF c) (hd : MrF d) : FnF (Amul arF (Ac arF 5) b) ∧ FnF (Aadd arF a (Amul arF (Ac arF 5) b)) ∧ FnF (Amul arF (Ac arF 5) c) ∧ FnF (Aadd arF (Aadd arF a (Amul arF (Ac arF 5) b)) (Amul arF (Ac arF 5) c)) ∧ FnF (Aadd arF (Aadd arF (Aadd arF a (Amul arF (Ac arF 5) b)) (Amul arF (Ac arF 5) c)) d) ∧ MkF (gwg arF a b c d) := by
  have q1 := mf_mul2 mf_c2 hb (by decide) (by decide)
  have q2 := mf_add (ha.mono (show _ ≤ 144 by decide)) (q1.mono (by decide)) (by decide)
  have q3 := mf_mul2 mf_c2 hc (by decide) (by decide)
  have q4 := mf_add (q2.mono (show _ ≤ 147 by decide)) (q3.mono (by decide)) (by decide)
  have q5 := mf_add (q4.mono (show _ ≤ 150 by decide)) (hd.mono (by decide)) (by decide)
  have q6 := mf_div6 q5 (by decide)
  exact ⟨q1.fin (by decide), q2.fin (by decide), q3.fin (by decide), q4.fin (by decide), q5.fin (by decide), q6.mono (by decide)⟩
theorem adD {a b : UInt64} (ha : MrD a) (hb : MrD b) : MkD (Aadd arD a b) := (mg_add ha hb (by decide)).mono (by decide)
theorem adF {a b : UInt32} (ha : MrF a) (hb : MrF b) : MkF (Aadd arF a b) := (mf_add ha hb (by decide)).mono (by decide)
theorem nz6cD : ¬ Acm arD (Ac arD 6) (Ac arD 0) = some .eq := nz6D
theorem nz6cF : ¬ Acm arF (Ac arF 6) (Ac arF 0) = some .eq := nz6F
theorem pw_k2 {α : Type} {f g : Int → α} {i : Nat} (h : g i = f i) : pw f g (i + 1) = pw f g i := (pw_k h).symm
theorem mh_fnD {x : UInt64} (h : MhD x) : FnD x := h.fin (by decide)
theorem mk_fnD {x : UInt64} (h : MkD x) : FnD x := h.fin (by decide)
theorem mr_fnD {x : UInt64} (h : MrD x) : FnD x := h.fin (by decide)
theorem mr_mkD {x : UInt64} (h : MrD x) : MkD x := h.mono (by decide)
theorem mh_fnF {x : UInt32} (h : MhF x) : FnF x := h.fin (by decide)
theorem mk_fnF {x : UInt32} (h : MkF x) : FnF x := h.fin (by decide)
theorem mr_fnF {x : UInt32} (h : MrF x) : FnF x := h.fin (by decide)
theorem mr_mkF {x : UInt32} (h : MrF x) : MkF x := h.mono (by decide)
section TWC6
variable {σ : Hp} {Q : Option PV → Hp → Prop}
theorem std_step {a a' : Int → UInt64} {l l1 : Int → Int} : wD (wI (wI (wD σ 24 a) 20 l) 20 l1) 24 a' = wI (wD σ 24 a') 20 l1 := by
  show (up1 (up1 σ.1 20 l) 20 l1, σ.2.1, σ.2.2.1, up1 (up1 σ.2.2.2 24 a) 24 a') = (up1 σ.1 20 l1, σ.2.1, σ.2.2.1, up1 σ.2.2.2 24 a')
  simp only [up1_up1]
theorem stf_step {a a' : Int → UInt64} {l l1 : Int → Int} : wD (wI (wI (wD σ 37 a) 20 l) 20 l1) 37 a' = wI (wD σ 37 a') 20 l1 := by
  show (up1 (up1 σ.1 20 l) 20 l1, σ.2.1, σ.2.2.1, up1 (up1 σ.2.2.2 37 a) 37 a') = (up1 σ.1 20 l1, σ.2.1, σ.2.2.1, up1 σ.2.2.2 37 a')
  simp only [up1_up1]
theorem stt_step {a a' : Int → UInt64} {l l1 : Int → Int} : wD (wI (wI (wD σ 59 a) 55 l) 55 l1) 59 a' = wI (wD σ 59 a') 55 l1 := by
  show (up1 (up1 σ.1 55 l) 55 l1, σ.2.1, σ.2.2.1, up1 (up1 σ.2.2.2 59 a) 59 a') = (up1 σ.1 55 l1, σ.2.1, σ.2.2.1, up1 σ.2.2.2 59 a')
  simp only [up1_up1]
theorem cTd_moveStates_k1 {fr : Int → Int} {st bf K : Int → UInt64} {h : UInt64} {len : UInt64} {N : Nat} (hc : CtI σ fr N) (hfl : hI σ 21 3 = 0) (hlen : len = cvD h) (hh : MhD h) (hst : ∀ m : Int, 0 ≤ m → m < N → hD σ 24 m = cvD (st m) ∧ BdD (st m)) (hbf : ∀ m : Int, 0 ≤ m → m < N → hD σ 28 m = cvD (bf m) ∧ BdD (bf m)) (hK : ∀ m : Int, 0 ≤ m → m < N → hI σ 4 m = 2 → hD σ 30 m = cvD (K m) ∧ MkD (K m)) (hl : (∀ m : Int, 0 ≤ m → m < N → inR (hI σ 20 m)) ∧ inR (hI σ 19 1))
    (hQ : ∀ a, (∀ m : Int, 0 ≤ m → m < N → a m = cvD (pw st (gmvS arD (hI σ 4) h bf K st) N m) ∧ BdD (pw st (gmvS arD (hI σ 4) h bf K st) N m)) → Q none (wI (wD σ 24 a) 20 (lms (hI σ 20) (hI σ 19 1) (pw (fun _ => false) (gmvB arD (hI σ 4) h bf K) N)))) : Sp mT_moveStates [vR 21, vR 30, vD len] σ Q := by
  have hN := hc.1
  have hN2 := hc.2.1
  have loop : ∀ (n i : Nat), i ≤ N → N + 1 ≤ i + n → ∀ a, (∀ m : Int, 0 ≤ m → m < N → a m = cvD (pw st (gmvS arD (hI σ 4) h bf K st) i m) ∧ BdD (pw st (gmvS arD (hI σ 4) h bf K st) i m)) → J mT_moveStates 3 [(0, vR 21), (1, vR 30), (2, vD len), (4, vI i)] [] (wI (wD σ 24 a) 20 (lms (hI σ 20) (hI σ 19 1) (pw (fun _ => false) (gmvB arD (hI σ 4) h bf K) i))) Q := by
    intro n
    induction n with
    | zero => intro i h1 h2; exact absurd h2 (by omega)
    | succ n ih =>
      intro i h1 h2 a ha
      have kb : i < N → 0 ≤ hI σ 4 i ∧ hI σ 4 i < 14 := fun h => hc.2.2.1 i (by omega) (by omega)
      have hbi : i < N → hD σ 28 i = cvD (bf i) ∧ BdD (bf i) := fun z => hbf i (by omega) (by omega)
      have hKi : i < N → hI σ 4 i = 2 → hD σ 30 i = cvD (K i) ∧ MkD (K i) := fun z => hK i (by omega) (by omega)
      have hli : i < N → inR (hI σ 20 i) := fun z => hl.1 i (by omega) (by omega)
      obtain ⟨τ, hτ⟩ : ∃ τ, τ = wI (wD σ 24 a) 20 (lms (hI σ 20) (hI σ 19 1) (pw (fun _ => false) (gmvB arD (hI σ 4) h bf K) i)) := ⟨_, rfl⟩
      have eN : hI τ 3 0 = N := by rw [hτ]; exact hN
      have eK : hI τ 4 = hI σ 4 := by rw [hτ]; rfl
      have eA : hD τ 28 = hD σ 28 := by rw [hτ]; rfl
      have eC : hD τ 30 = hD σ 30 := by rw [hτ]; rfl
      have eS : hD τ 24 = a := by rw [hτ]; rfl
      have efl : hI τ 21 3 = 0 := by rw [hτ]; exact hfl
      have elo : hI τ 19 1 = hI σ 19 1 := by rw [hτ]; rfl
      have elm : hI τ 20 = lms (hI σ 20) (hI σ 19 1) (pw (fun _ => false) (gmvB arD (hI σ 4) h bf K) i) := by rw [hτ]; rfl
      have hlτ : i < N → inR (hI τ 20 i) := fun z => by rw [elm]; exact lms_inR (hli z) hl.2
      have no : i < N → ¬ hI σ 4 i = 2 → J mT_moveStates 3 [(0, vR 21), (1, vR 30), (2, vD len), (4, vI (i + 1))] [] τ Q := fun z g => by
        have e1 := pw_k2 (f := st) (g := gmvS arD (hI σ 4) h bf K st) (i := i) (if_neg g)
        have e2 := pw_k2 (f := fun _ => false) (g := gmvB arD (hI σ 4) h bf K) (i := i) (by unfold gmvB; rw [decide_eq_false g]; rfl)
        have := ih (i + 1) (by omega) (by omega) a (fun m x y => by rw [e1]; exact ha m x y)
        rw [e2, ← hτ] at this
        exact this
      have yes : i < N → hI σ 4 i = 2 → ∀ y, y = gaft arD (Aadd arD (bf i) (Amul arD h (K i))) → BdD y.1 → J mT_moveStates 3 [(0, vR 21), (1, vR 30), (2, vD len), (4, vI (i + 1))] [] (wD (wI τ 20 (lmp (hI τ 20) i (hI τ 19 1) y.2)) 24 (fup (hD τ 24) i (cvD y.1))) Q := fun z g y hy by1 => by
        have e1 : gmvS arD (hI σ 4) h bf K st i = y.1 := by unfold gmvS; rw [if_pos g, hy]; rfl
        have e2 : gmvB arD (hI σ 4) h bf K i = y.2 := by unfold gmvB; rw [decide_eq_true g, Bool.true_and, hy]; rfl
        have := ih (i + 1) (by omega) (by omega) (fup a i (cvD y.1)) (fun m x y0 => by
          rw [← pw_s, e1]
          unfold fup
          by_cases hk : m = i
          · rw [if_pos hk, if_pos hk]; exact ⟨rfl, by1⟩
          · rw [if_neg hk, if_neg hk]; exact ha m x y0)
        rw [elm, elo, eS, hτ, std_step, lmp_lms, pw_at, Bool.false_or, ← e2, pw_s]
        exact this
      clear ih
      rw [← hτ]
      have hf := fun z g => mvD hh (hbi z).2 (hKi z g).2
      have m1 := fun z g => hcD_mul (mh_fnD hh) (mk_fnD (hKi z g).2)
      have n1 : i < N → hI σ 4 i = 2 → vf_n64 (FP.dmul (cvD h) (cvD (K i))) := fun z g => nn_mul (cvD_fn (mh_fnD hh)) (cvD_fn (mk_fnD (hKi z g).2))
      have m2 := fun z g => hcD_add (hbi z).2.fn (hf z g).1
      have n2 : i < N → hI σ 4 i = 2 → vf_n64 (FP.dadd (cvD (bf i)) (cvD (Amul arD h (K i)))) := fun z g => nn_add2 (cvD_fn (hbi z).2.fn) (cvD_fn (hf z g).1)
      subst hlen
      refine j_iload (p2 := 5) dT_moveStates_3 rfl rfl ?_
      refine j_aload_n (p2 := 6) dT_moveStates_5 rfl rfl ?_
      refine j_getR (p2 := 9) dT_moveStates_6 rfl fa_T_49 ly_21 rfl ?_
      refine j_getIk (p2 := 12) dT_moveStates_9 rfl fa_T_65 ly_3 rfl (ki := 0) rfl ?_
      refine j_icmp_ge (p2 := 15) (tg := 70) dT_moveStates_12 rfl (by decide) (by constructor <;> omega) (by rw [eN]; constructor <;> omega) (fun h12 => ?_) (fun h12 => ?_)
      · refine j_return dT_moveStates_70 rfl (by rw [eN] at h12; have e : i = N := (by omega); subst e; rw [hτ]; exact hQ a ha)
      · refine j_aload_n (p2 := 16) dT_moveStates_15 rfl rfl ?_
        refine j_getR (p2 := 19) dT_moveStates_16 rfl fa_T_49 ly_21 rfl ?_
        refine j_getR (p2 := 22) dT_moveStates_19 rfl fa_T_119 ly_3 rfl ?_
        refine j_iload (p2 := 24) dT_moveStates_22 rfl rfl ?_
        refine j_iald (p2 := 25) dT_moveStates_24 rfl ly_4 (by decide) (by omega) (by rw [eN] at h12; omega) ?_
        refine j_iconst (p2 := 26) dT_moveStates_25 rfl ?_
        refine j_icmp_ne (p2 := 29) (tg := 64) dT_moveStates_26 rfl (by decide) (by rw [eN] at h12; rw [eK]; have := kb (by omega); constructor <;> omega) (by constructor <;> omega) (fun h26 => ?_) (fun h26 => ?_)
        · refine j_iinc (p2 := 67) (lv' := [(0, _), (1, _), (2, _), (4, _)]) dT_moveStates_64 rfl (Nat.le_of_ble_eq_true rfl) rfl ⟨rfl, rfl, rfl, rfl, trivial⟩ ?_
          refine j_goto (p2 := 3) dT_moveStates_67 (by decide) ?_
          refine J.loc (lv' := [(0, _), (1, _), (2, _), (4, _)]) ⟨rfl, rfl, rfl, rfl, trivial⟩ ?_
          have g : ¬ hI σ 4 i = 2 := by rw [← eK]; exact h26
          rw [eN] at h12
          exact no (by omega) g
        · refine J.loc (lv' := [(0, _), (1, _), (2, _), (4, _)]) ⟨rfl, rfl, rfl, rfl, trivial⟩ ?_
          rw [eN] at h12
          have g : hI σ 4 i = 2 := by rw [← eK]; exact h26
          have z : i < N := by omega
          refine j_aload_n (p2 := 30) dT_moveStates_29 rfl rfl ?_
          refine j_getR (p2 := 33) dT_moveStates_30 rfl fa_T_18 ly_21 rfl ?_
          refine j_iload (p2 := 35) dT_moveStates_33 rfl rfl ?_
          refine j_aload_n (p2 := 36) dT_moveStates_35 rfl rfl ?_
          refine j_iload (p2 := 38) dT_moveStates_36 rfl rfl ?_
          refine j_aload_n (p2 := 39) dT_moveStates_38 rfl rfl ?_
          refine j_aload_n (p2 := 40) dT_moveStates_39 rfl rfl ?_
          refine j_getR (p2 := 43) dT_moveStates_40 rfl fa_T_31 ly_21 rfl ?_
          refine j_iload (p2 := 45) dT_moveStates_43 rfl rfl ?_
          refine j_dald (p2 := 46) dT_moveStates_45 rfl ly_28 (by decide) (by omega) (by omega) ?_
          refine j_aload_n (p2 := 47) dT_moveStates_46 rfl rfl ?_
          refine j_dload_n (p2 := 48) dT_moveStates_47 rfl rfl ?_
          refine j_aload_n (p2 := 49) dT_moveStates_48 rfl rfl ?_
          refine j_iload (p2 := 51) dT_moveStates_49 rfl rfl ?_
          refine j_dald (p2 := 52) dT_moveStates_51 rfl ly_30 (by decide) (by omega) (by omega) ?_
          refine j_dmul (p2 := 53) dT_moveStates_52 rfl (by rw [eC, (hKi z g).1]; exact n1 z g) ?_
          refine j_callV (m' := mT_rounded) (As := [_]) (p2 := 56) dT_moveStates_53 rfl ml_T_74 ok_mT_rounded im_mT_rounded se_mT_rounded rfl rfl (Nat.le_of_ble_eq_true rfl) ly_21 rfl (Nat.le_of_ble_eq_true rfl) ⟨(Nat.le_of_ble_eq_true rfl), (Nat.le_of_ble_eq_true rfl)⟩ ?_
          refine cTd_rounded efl (by rw [eC, (hKi z g).1]; exact n1 z g) ?_
          refine j_dadd (p2 := 57) dT_moveStates_56 rfl (by rw [eC, (hKi z g).1, m1 z g, eA, (hbi z).1]; exact n2 z g) ?_
          refine j_callV (m' := mT_rounded) (As := [_]) (p2 := 60) dT_moveStates_57 rfl ml_T_74 ok_mT_rounded im_mT_rounded se_mT_rounded rfl rfl (Nat.le_of_ble_eq_true rfl) ly_21 rfl (Nat.le_of_ble_eq_true rfl) ⟨(Nat.le_of_ble_eq_true rfl), (Nat.le_of_ble_eq_true rfl)⟩ ?_
          refine cTd_rounded efl (by rw [eC, (hKi z g).1, m1 z g, eA, (hbi z).1]; exact n2 z g) ?_
          rw [eC, (hKi z g).1, m1 z g, eA, (hbi z).1, m2 z g]
          refine j_callV (m' := mT_after) (As := [_, _]) (p2 := 63) dT_moveStates_60 rfl ml_T_126 ok_mT_after im_mT_after se_mT_after rfl rfl (Nat.le_of_ble_eq_true rfl) ly_21 rfl (Nat.le_of_ble_eq_true rfl) ⟨(Nat.le_of_ble_eq_true rfl), (Nat.le_of_ble_eq_true rfl)⟩ ?_
          refine cTd_after (fn_nnD (hf z g).2) (Or.inl rfl) (by omega) (hlτ z) ?_
          refine j_dastk (p2 := 64) dT_moveStates_63 rfl ly_24 (by decide) (by omega) (by omega) ?_
          refine j_iinc (p2 := 67) (lv' := [(0, _), (1, _), (2, _), (4, _)]) dT_moveStates_64 rfl (Nat.le_of_ble_eq_true rfl) rfl ⟨rfl, rfl, rfl, rfl, trivial⟩ ?_
          refine j_goto (p2 := 3) dT_moveStates_67 (by decide) ?_
          refine J.loc (lv' := [(0, _), (1, _), (2, _), (4, _)]) ⟨rfl, rfl, rfl, rfl, trivial⟩ ?_
          exact yes z g _ rfl (gaft_bdd (fn_nnD (hf z g).2))
  have start := loop (N + 1) 0 (by omega) (by omega) (hD σ 24) (fun m x y => by rw [pw_0]; exact hst m x y)
  rw [pw_0, lms_0, wD_id, wI_id] at start
  refine j_iconst (p2 := 1) dT_moveStates_0 rfl ?_
  refine j_istore (p2 := 3) (lv' := [(0, _), (1, _), (2, _), (4, _)]) dT_moveStates_1 rfl (Nat.le_of_ble_eq_true rfl) ⟨rfl, rfl, rfl, rfl, trivial⟩ ?_
  refine J.loc (lv' := [(0, _), (1, _), (2, _), (4, _)]) ⟨rfl, rfl, rfl, rfl, trivial⟩ ?_
  exact start
theorem cTd_moveStates_k2 {fr : Int → Int} {st bf K : Int → UInt64} {h : UInt64} {len : UInt64} {N : Nat} (hc : CtI σ fr N) (hfl : hI σ 21 3 = 0) (hlen : len = cvD h) (hh : MhD h) (hst : ∀ m : Int, 0 ≤ m → m < N → hD σ 24 m = cvD (st m) ∧ BdD (st m)) (hbf : ∀ m : Int, 0 ≤ m → m < N → hD σ 28 m = cvD (bf m) ∧ BdD (bf m)) (hK : ∀ m : Int, 0 ≤ m → m < N → hI σ 4 m = 2 → hD σ 31 m = cvD (K m) ∧ MkD (K m)) (hl : (∀ m : Int, 0 ≤ m → m < N → inR (hI σ 20 m)) ∧ inR (hI σ 19 1))
    (hQ : ∀ a, (∀ m : Int, 0 ≤ m → m < N → a m = cvD (pw st (gmvS arD (hI σ 4) h bf K st) N m) ∧ BdD (pw st (gmvS arD (hI σ 4) h bf K st) N m)) → Q none (wI (wD σ 24 a) 20 (lms (hI σ 20) (hI σ 19 1) (pw (fun _ => false) (gmvB arD (hI σ 4) h bf K) N)))) : Sp mT_moveStates [vR 21, vR 31, vD len] σ Q := by
  have hN := hc.1
  have hN2 := hc.2.1
  have loop : ∀ (n i : Nat), i ≤ N → N + 1 ≤ i + n → ∀ a, (∀ m : Int, 0 ≤ m → m < N → a m = cvD (pw st (gmvS arD (hI σ 4) h bf K st) i m) ∧ BdD (pw st (gmvS arD (hI σ 4) h bf K st) i m)) → J mT_moveStates 3 [(0, vR 21), (1, vR 31), (2, vD len), (4, vI i)] [] (wI (wD σ 24 a) 20 (lms (hI σ 20) (hI σ 19 1) (pw (fun _ => false) (gmvB arD (hI σ 4) h bf K) i))) Q := by
    intro n
    induction n with
    | zero => intro i h1 h2; exact absurd h2 (by omega)
    | succ n ih =>
      intro i h1 h2 a ha
      have kb : i < N → 0 ≤ hI σ 4 i ∧ hI σ 4 i < 14 := fun h => hc.2.2.1 i (by omega) (by omega)
      have hbi : i < N → hD σ 28 i = cvD (bf i) ∧ BdD (bf i) := fun z => hbf i (by omega) (by omega)
      have hKi : i < N → hI σ 4 i = 2 → hD σ 31 i = cvD (K i) ∧ MkD (K i) := fun z => hK i (by omega) (by omega)
      have hli : i < N → inR (hI σ 20 i) := fun z => hl.1 i (by omega) (by omega)
      obtain ⟨τ, hτ⟩ : ∃ τ, τ = wI (wD σ 24 a) 20 (lms (hI σ 20) (hI σ 19 1) (pw (fun _ => false) (gmvB arD (hI σ 4) h bf K) i)) := ⟨_, rfl⟩
      have eN : hI τ 3 0 = N := by rw [hτ]; exact hN
      have eK : hI τ 4 = hI σ 4 := by rw [hτ]; rfl
      have eA : hD τ 28 = hD σ 28 := by rw [hτ]; rfl
      have eC : hD τ 31 = hD σ 31 := by rw [hτ]; rfl
      have eS : hD τ 24 = a := by rw [hτ]; rfl
      have efl : hI τ 21 3 = 0 := by rw [hτ]; exact hfl
      have elo : hI τ 19 1 = hI σ 19 1 := by rw [hτ]; rfl
      have elm : hI τ 20 = lms (hI σ 20) (hI σ 19 1) (pw (fun _ => false) (gmvB arD (hI σ 4) h bf K) i) := by rw [hτ]; rfl
      have hlτ : i < N → inR (hI τ 20 i) := fun z => by rw [elm]; exact lms_inR (hli z) hl.2
      have no : i < N → ¬ hI σ 4 i = 2 → J mT_moveStates 3 [(0, vR 21), (1, vR 31), (2, vD len), (4, vI (i + 1))] [] τ Q := fun z g => by
        have e1 := pw_k2 (f := st) (g := gmvS arD (hI σ 4) h bf K st) (i := i) (if_neg g)
        have e2 := pw_k2 (f := fun _ => false) (g := gmvB arD (hI σ 4) h bf K) (i := i) (by unfold gmvB; rw [decide_eq_false g]; rfl)
        have := ih (i + 1) (by omega) (by omega) a (fun m x y => by rw [e1]; exact ha m x y)
        rw [e2, ← hτ] at this
        exact this
      have yes : i < N → hI σ 4 i = 2 → ∀ y, y = gaft arD (Aadd arD (bf i) (Amul arD h (K i))) → BdD y.1 → J mT_moveStates 3 [(0, vR 21), (1, vR 31), (2, vD len), (4, vI (i + 1))] [] (wD (wI τ 20 (lmp (hI τ 20) i (hI τ 19 1) y.2)) 24 (fup (hD τ 24) i (cvD y.1))) Q := fun z g y hy by1 => by
        have e1 : gmvS arD (hI σ 4) h bf K st i = y.1 := by unfold gmvS; rw [if_pos g, hy]; rfl
        have e2 : gmvB arD (hI σ 4) h bf K i = y.2 := by unfold gmvB; rw [decide_eq_true g, Bool.true_and, hy]; rfl
        have := ih (i + 1) (by omega) (by omega) (fup a i (cvD y.1)) (fun m x y0 => by
          rw [← pw_s, e1]
          unfold fup
          by_cases hk : m = i
          · rw [if_pos hk, if_pos hk]; exact ⟨rfl, by1⟩
          · rw [if_neg hk, if_neg hk]; exact ha m x y0)
        rw [elm, elo, eS, hτ, std_step, lmp_lms, pw_at, Bool.false_or, ← e2, pw_s]
        exact this
      clear ih
      rw [← hτ]
      have hf := fun z g => mvD hh (hbi z).2 (hKi z g).2
      have m1 := fun z g => hcD_mul (mh_fnD hh) (mk_fnD (hKi z g).2)
      have n1 : i < N → hI σ 4 i = 2 → vf_n64 (FP.dmul (cvD h) (cvD (K i))) := fun z g => nn_mul (cvD_fn (mh_fnD hh)) (cvD_fn (mk_fnD (hKi z g).2))
      have m2 := fun z g => hcD_add (hbi z).2.fn (hf z g).1
      have n2 : i < N → hI σ 4 i = 2 → vf_n64 (FP.dadd (cvD (bf i)) (cvD (Amul arD h (K i)))) := fun z g => nn_add2 (cvD_fn (hbi z).2.fn) (cvD_fn (hf z g).1)
      subst hlen
      refine j_iload (p2 := 5) dT_moveStates_3 rfl rfl ?_
      refine j_aload_n (p2 := 6) dT_moveStates_5 rfl rfl ?_
      refine j_getR (p2 := 9) dT_moveStates_6 rfl fa_T_49 ly_21 rfl ?_
      refine j_getIk (p2 := 12) dT_moveStates_9 rfl fa_T_65 ly_3 rfl (ki := 0) rfl ?_
      refine j_icmp_ge (p2 := 15) (tg := 70) dT_moveStates_12 rfl (by decide) (by constructor <;> omega) (by rw [eN]; constructor <;> omega) (fun h12 => ?_) (fun h12 => ?_)
      · refine j_return dT_moveStates_70 rfl (by rw [eN] at h12; have e : i = N := (by omega); subst e; rw [hτ]; exact hQ a ha)
      · refine j_aload_n (p2 := 16) dT_moveStates_15 rfl rfl ?_
        refine j_getR (p2 := 19) dT_moveStates_16 rfl fa_T_49 ly_21 rfl ?_
        refine j_getR (p2 := 22) dT_moveStates_19 rfl fa_T_119 ly_3 rfl ?_
        refine j_iload (p2 := 24) dT_moveStates_22 rfl rfl ?_
        refine j_iald (p2 := 25) dT_moveStates_24 rfl ly_4 (by decide) (by omega) (by rw [eN] at h12; omega) ?_
        refine j_iconst (p2 := 26) dT_moveStates_25 rfl ?_
        refine j_icmp_ne (p2 := 29) (tg := 64) dT_moveStates_26 rfl (by decide) (by rw [eN] at h12; rw [eK]; have := kb (by omega); constructor <;> omega) (by constructor <;> omega) (fun h26 => ?_) (fun h26 => ?_)
        · refine j_iinc (p2 := 67) (lv' := [(0, _), (1, _), (2, _), (4, _)]) dT_moveStates_64 rfl (Nat.le_of_ble_eq_true rfl) rfl ⟨rfl, rfl, rfl, rfl, trivial⟩ ?_
          refine j_goto (p2 := 3) dT_moveStates_67 (by decide) ?_
          refine J.loc (lv' := [(0, _), (1, _), (2, _), (4, _)]) ⟨rfl, rfl, rfl, rfl, trivial⟩ ?_
          have g : ¬ hI σ 4 i = 2 := by rw [← eK]; exact h26
          rw [eN] at h12
          exact no (by omega) g
        · refine J.loc (lv' := [(0, _), (1, _), (2, _), (4, _)]) ⟨rfl, rfl, rfl, rfl, trivial⟩ ?_
          rw [eN] at h12
          have g : hI σ 4 i = 2 := by rw [← eK]; exact h26
          have z : i < N := by omega
          refine j_aload_n (p2 := 30) dT_moveStates_29 rfl rfl ?_
          refine j_getR (p2 := 33) dT_moveStates_30 rfl fa_T_18 ly_21 rfl ?_
          refine j_iload (p2 := 35) dT_moveStates_33 rfl rfl ?_
          refine j_aload_n (p2 := 36) dT_moveStates_35 rfl rfl ?_
          refine j_iload (p2 := 38) dT_moveStates_36 rfl rfl ?_
          refine j_aload_n (p2 := 39) dT_moveStates_38 rfl rfl ?_
          refine j_aload_n (p2 := 40) dT_moveStates_39 rfl rfl ?_
          refine j_getR (p2 := 43) dT_moveStates_40 rfl fa_T_31 ly_21 rfl ?_
          refine j_iload (p2 := 45) dT_moveStates_43 rfl rfl ?_
          refine j_dald (p2 := 46) dT_moveStates_45 rfl ly_28 (by decide) (by omega) (by omega) ?_
          refine j_aload_n (p2 := 47) dT_moveStates_46 rfl rfl ?_
          refine j_dload_n (p2 := 48) dT_moveStates_47 rfl rfl ?_
          refine j_aload_n (p2 := 49) dT_moveStates_48 rfl rfl ?_
          refine j_iload (p2 := 51) dT_moveStates_49 rfl rfl ?_
          refine j_dald (p2 := 52) dT_moveStates_51 rfl ly_31 (by decide) (by omega) (by omega) ?_
          refine j_dmul (p2 := 53) dT_moveStates_52 rfl (by rw [eC, (hKi z g).1]; exact n1 z g) ?_
          refine j_callV (m' := mT_rounded) (As := [_]) (p2 := 56) dT_moveStates_53 rfl ml_T_74 ok_mT_rounded im_mT_rounded se_mT_rounded rfl rfl (Nat.le_of_ble_eq_true rfl) ly_21 rfl (Nat.le_of_ble_eq_true rfl) ⟨(Nat.le_of_ble_eq_true rfl), (Nat.le_of_ble_eq_true rfl)⟩ ?_
          refine cTd_rounded efl (by rw [eC, (hKi z g).1]; exact n1 z g) ?_
          refine j_dadd (p2 := 57) dT_moveStates_56 rfl (by rw [eC, (hKi z g).1, m1 z g, eA, (hbi z).1]; exact n2 z g) ?_
          refine j_callV (m' := mT_rounded) (As := [_]) (p2 := 60) dT_moveStates_57 rfl ml_T_74 ok_mT_rounded im_mT_rounded se_mT_rounded rfl rfl (Nat.le_of_ble_eq_true rfl) ly_21 rfl (Nat.le_of_ble_eq_true rfl) ⟨(Nat.le_of_ble_eq_true rfl), (Nat.le_of_ble_eq_true rfl)⟩ ?_
          refine cTd_rounded efl (by rw [eC, (hKi z g).1, m1 z g, eA, (hbi z).1]; exact n2 z g) ?_
          rw [eC, (hKi z g).1, m1 z g, eA, (hbi z).1, m2 z g]
          refine j_callV (m' := mT_after) (As := [_, _]) (p2 := 63) dT_moveStates_60 rfl ml_T_126 ok_mT_after im_mT_after se_mT_after rfl rfl (Nat.le_of_ble_eq_true rfl) ly_21 rfl (Nat.le_of_ble_eq_true rfl) ⟨(Nat.le_of_ble_eq_true rfl), (Nat.le_of_ble_eq_true rfl)⟩ ?_
          refine cTd_after (fn_nnD (hf z g).2) (Or.inl rfl) (by omega) (hlτ z) ?_
          refine j_dastk (p2 := 64) dT_moveStates_63 rfl ly_24 (by decide) (by omega) (by omega) ?_
          refine j_iinc (p2 := 67) (lv' := [(0, _), (1, _), (2, _), (4, _)]) dT_moveStates_64 rfl (Nat.le_of_ble_eq_true rfl) rfl ⟨rfl, rfl, rfl, rfl, trivial⟩ ?_
          refine j_goto (p2 := 3) dT_moveStates_67 (by decide) ?_
          refine J.loc (lv' := [(0, _), (1, _), (2, _), (4, _)]) ⟨rfl, rfl, rfl, rfl, trivial⟩ ?_
          exact yes z g _ rfl (gaft_bdd (fn_nnD (hf z g).2))
  have start := loop (N + 1) 0 (by omega) (by omega) (hD σ 24) (fun m x y => by rw [pw_0]; exact hst m x y)
  rw [pw_0, lms_0, wD_id, wI_id] at start
  refine j_iconst (p2 := 1) dT_moveStates_0 rfl ?_
  refine j_istore (p2 := 3) (lv' := [(0, _), (1, _), (2, _), (4, _)]) dT_moveStates_1 rfl (Nat.le_of_ble_eq_true rfl) ⟨rfl, rfl, rfl, rfl, trivial⟩ ?_
  refine J.loc (lv' := [(0, _), (1, _), (2, _), (4, _)]) ⟨rfl, rfl, rfl, rfl, trivial⟩ ?_
  exact start
theorem cTd_moveStates_k3 {fr : Int → Int} {st bf K : Int → UInt64} {h : UInt64} {len : UInt64} {N : Nat} (hc : CtI σ fr N) (hfl : hI σ 21 3 = 0) (hlen : len = cvD h) (hh : MhD h) (hst : ∀ m : Int, 0 ≤ m → m < N → hD σ 24 m = cvD (st m) ∧ BdD (st m)) (hbf : ∀ m : Int, 0 ≤ m → m < N → hD σ 28 m = cvD (bf m) ∧ BdD (bf m)) (hK : ∀ m : Int, 0 ≤ m → m < N → hI σ 4 m = 2 → hD σ 32 m = cvD (K m) ∧ MkD (K m)) (hl : (∀ m : Int, 0 ≤ m → m < N → inR (hI σ 20 m)) ∧ inR (hI σ 19 1))
    (hQ : ∀ a, (∀ m : Int, 0 ≤ m → m < N → a m = cvD (pw st (gmvS arD (hI σ 4) h bf K st) N m) ∧ BdD (pw st (gmvS arD (hI σ 4) h bf K st) N m)) → Q none (wI (wD σ 24 a) 20 (lms (hI σ 20) (hI σ 19 1) (pw (fun _ => false) (gmvB arD (hI σ 4) h bf K) N)))) : Sp mT_moveStates [vR 21, vR 32, vD len] σ Q := by
  have hN := hc.1
  have hN2 := hc.2.1
  have loop : ∀ (n i : Nat), i ≤ N → N + 1 ≤ i + n → ∀ a, (∀ m : Int, 0 ≤ m → m < N → a m = cvD (pw st (gmvS arD (hI σ 4) h bf K st) i m) ∧ BdD (pw st (gmvS arD (hI σ 4) h bf K st) i m)) → J mT_moveStates 3 [(0, vR 21), (1, vR 32), (2, vD len), (4, vI i)] [] (wI (wD σ 24 a) 20 (lms (hI σ 20) (hI σ 19 1) (pw (fun _ => false) (gmvB arD (hI σ 4) h bf K) i))) Q := by
    intro n
    induction n with
    | zero => intro i h1 h2; exact absurd h2 (by omega)
    | succ n ih =>
      intro i h1 h2 a ha
      have kb : i < N → 0 ≤ hI σ 4 i ∧ hI σ 4 i < 14 := fun h => hc.2.2.1 i (by omega) (by omega)
      have hbi : i < N → hD σ 28 i = cvD (bf i) ∧ BdD (bf i) := fun z => hbf i (by omega) (by omega)
      have hKi : i < N → hI σ 4 i = 2 → hD σ 32 i = cvD (K i) ∧ MkD (K i) := fun z => hK i (by omega) (by omega)
      have hli : i < N → inR (hI σ 20 i) := fun z => hl.1 i (by omega) (by omega)
      obtain ⟨τ, hτ⟩ : ∃ τ, τ = wI (wD σ 24 a) 20 (lms (hI σ 20) (hI σ 19 1) (pw (fun _ => false) (gmvB arD (hI σ 4) h bf K) i)) := ⟨_, rfl⟩
      have eN : hI τ 3 0 = N := by rw [hτ]; exact hN
      have eK : hI τ 4 = hI σ 4 := by rw [hτ]; rfl
      have eA : hD τ 28 = hD σ 28 := by rw [hτ]; rfl
      have eC : hD τ 32 = hD σ 32 := by rw [hτ]; rfl
      have eS : hD τ 24 = a := by rw [hτ]; rfl
      have efl : hI τ 21 3 = 0 := by rw [hτ]; exact hfl
      have elo : hI τ 19 1 = hI σ 19 1 := by rw [hτ]; rfl
      have elm : hI τ 20 = lms (hI σ 20) (hI σ 19 1) (pw (fun _ => false) (gmvB arD (hI σ 4) h bf K) i) := by rw [hτ]; rfl
      have hlτ : i < N → inR (hI τ 20 i) := fun z => by rw [elm]; exact lms_inR (hli z) hl.2
      have no : i < N → ¬ hI σ 4 i = 2 → J mT_moveStates 3 [(0, vR 21), (1, vR 32), (2, vD len), (4, vI (i + 1))] [] τ Q := fun z g => by
        have e1 := pw_k2 (f := st) (g := gmvS arD (hI σ 4) h bf K st) (i := i) (if_neg g)
        have e2 := pw_k2 (f := fun _ => false) (g := gmvB arD (hI σ 4) h bf K) (i := i) (by unfold gmvB; rw [decide_eq_false g]; rfl)
        have := ih (i + 1) (by omega) (by omega) a (fun m x y => by rw [e1]; exact ha m x y)
        rw [e2, ← hτ] at this
        exact this
      have yes : i < N → hI σ 4 i = 2 → ∀ y, y = gaft arD (Aadd arD (bf i) (Amul arD h (K i))) → BdD y.1 → J mT_moveStates 3 [(0, vR 21), (1, vR 32), (2, vD len), (4, vI (i + 1))] [] (wD (wI τ 20 (lmp (hI τ 20) i (hI τ 19 1) y.2)) 24 (fup (hD τ 24) i (cvD y.1))) Q := fun z g y hy by1 => by
        have e1 : gmvS arD (hI σ 4) h bf K st i = y.1 := by unfold gmvS; rw [if_pos g, hy]; rfl
        have e2 : gmvB arD (hI σ 4) h bf K i = y.2 := by unfold gmvB; rw [decide_eq_true g, Bool.true_and, hy]; rfl
        have := ih (i + 1) (by omega) (by omega) (fup a i (cvD y.1)) (fun m x y0 => by
          rw [← pw_s, e1]
          unfold fup
          by_cases hk : m = i
          · rw [if_pos hk, if_pos hk]; exact ⟨rfl, by1⟩
          · rw [if_neg hk, if_neg hk]; exact ha m x y0)
        rw [elm, elo, eS, hτ, std_step, lmp_lms, pw_at, Bool.false_or, ← e2, pw_s]
        exact this
      clear ih
      rw [← hτ]
      have hf := fun z g => mvD hh (hbi z).2 (hKi z g).2
      have m1 := fun z g => hcD_mul (mh_fnD hh) (mk_fnD (hKi z g).2)
      have n1 : i < N → hI σ 4 i = 2 → vf_n64 (FP.dmul (cvD h) (cvD (K i))) := fun z g => nn_mul (cvD_fn (mh_fnD hh)) (cvD_fn (mk_fnD (hKi z g).2))
      have m2 := fun z g => hcD_add (hbi z).2.fn (hf z g).1
      have n2 : i < N → hI σ 4 i = 2 → vf_n64 (FP.dadd (cvD (bf i)) (cvD (Amul arD h (K i)))) := fun z g => nn_add2 (cvD_fn (hbi z).2.fn) (cvD_fn (hf z g).1)
      subst hlen
      refine j_iload (p2 := 5) dT_moveStates_3 rfl rfl ?_
      refine j_aload_n (p2 := 6) dT_moveStates_5 rfl rfl ?_
      refine j_getR (p2 := 9) dT_moveStates_6 rfl fa_T_49 ly_21 rfl ?_
      refine j_getIk (p2 := 12) dT_moveStates_9 rfl fa_T_65 ly_3 rfl (ki := 0) rfl ?_
      refine j_icmp_ge (p2 := 15) (tg := 70) dT_moveStates_12 rfl (by decide) (by constructor <;> omega) (by rw [eN]; constructor <;> omega) (fun h12 => ?_) (fun h12 => ?_)
      · refine j_return dT_moveStates_70 rfl (by rw [eN] at h12; have e : i = N := (by omega); subst e; rw [hτ]; exact hQ a ha)
      · refine j_aload_n (p2 := 16) dT_moveStates_15 rfl rfl ?_
        refine j_getR (p2 := 19) dT_moveStates_16 rfl fa_T_49 ly_21 rfl ?_
        refine j_getR (p2 := 22) dT_moveStates_19 rfl fa_T_119 ly_3 rfl ?_
        refine j_iload (p2 := 24) dT_moveStates_22 rfl rfl ?_
        refine j_iald (p2 := 25) dT_moveStates_24 rfl ly_4 (by decide) (by omega) (by rw [eN] at h12; omega) ?_
        refine j_iconst (p2 := 26) dT_moveStates_25 rfl ?_
        refine j_icmp_ne (p2 := 29) (tg := 64) dT_moveStates_26 rfl (by decide) (by rw [eN] at h12; rw [eK]; have := kb (by omega); constructor <;> omega) (by constructor <;> omega) (fun h26 => ?_) (fun h26 => ?_)
        · refine j_iinc (p2 := 67) (lv' := [(0, _), (1, _), (2, _), (4, _)]) dT_moveStates_64 rfl (Nat.le_of_ble_eq_true rfl) rfl ⟨rfl, rfl, rfl, rfl, trivial⟩ ?_
          refine j_goto (p2 := 3) dT_moveStates_67 (by decide) ?_
          refine J.loc (lv' := [(0, _), (1, _), (2, _), (4, _)]) ⟨rfl, rfl, rfl, rfl, trivial⟩ ?_
          have g : ¬ hI σ 4 i = 2 := by rw [← eK]; exact h26
          rw [eN] at h12
          exact no (by omega) g
        · refine J.loc (lv' := [(0, _), (1, _), (2, _), (4, _)]) ⟨rfl, rfl, rfl, rfl, trivial⟩ ?_
          rw [eN] at h12
          have g : hI σ 4 i = 2 := by rw [← eK]; exact h26
          have z : i < N := by omega
          refine j_aload_n (p2 := 30) dT_moveStates_29 rfl rfl ?_
          refine j_getR (p2 := 33) dT_moveStates_30 rfl fa_T_18 ly_21 rfl ?_
          refine j_iload (p2 := 35) dT_moveStates_33 rfl rfl ?_
          refine j_aload_n (p2 := 36) dT_moveStates_35 rfl rfl ?_
          refine j_iload (p2 := 38) dT_moveStates_36 rfl rfl ?_
          refine j_aload_n (p2 := 39) dT_moveStates_38 rfl rfl ?_
          refine j_aload_n (p2 := 40) dT_moveStates_39 rfl rfl ?_
          refine j_getR (p2 := 43) dT_moveStates_40 rfl fa_T_31 ly_21 rfl ?_
          refine j_iload (p2 := 45) dT_moveStates_43 rfl rfl ?_
          refine j_dald (p2 := 46) dT_moveStates_45 rfl ly_28 (by decide) (by omega) (by omega) ?_
          refine j_aload_n (p2 := 47) dT_moveStates_46 rfl rfl ?_
          refine j_dload_n (p2 := 48) dT_moveStates_47 rfl rfl ?_
          refine j_aload_n (p2 := 49) dT_moveStates_48 rfl rfl ?_
          refine j_iload (p2 := 51) dT_moveStates_49 rfl rfl ?_
          refine j_dald (p2 := 52) dT_moveStates_51 rfl ly_32 (by decide) (by omega) (by omega) ?_
          refine j_dmul (p2 := 53) dT_moveStates_52 rfl (by rw [eC, (hKi z g).1]; exact n1 z g) ?_
          refine j_callV (m' := mT_rounded) (As := [_]) (p2 := 56) dT_moveStates_53 rfl ml_T_74 ok_mT_rounded im_mT_rounded se_mT_rounded rfl rfl (Nat.le_of_ble_eq_true rfl) ly_21 rfl (Nat.le_of_ble_eq_true rfl) ⟨(Nat.le_of_ble_eq_true rfl), (Nat.le_of_ble_eq_true rfl)⟩ ?_
          refine cTd_rounded efl (by rw [eC, (hKi z g).1]; exact n1 z g) ?_
          refine j_dadd (p2 := 57) dT_moveStates_56 rfl (by rw [eC, (hKi z g).1, m1 z g, eA, (hbi z).1]; exact n2 z g) ?_
          refine j_callV (m' := mT_rounded) (As := [_]) (p2 := 60) dT_moveStates_57 rfl ml_T_74 ok_mT_rounded im_mT_rounded se_mT_rounded rfl rfl (Nat.le_of_ble_eq_true rfl) ly_21 rfl (Nat.le_of_ble_eq_true rfl) ⟨(Nat.le_of_ble_eq_true rfl), (Nat.le_of_ble_eq_true rfl)⟩ ?_
          refine cTd_rounded efl (by rw [eC, (hKi z g).1, m1 z g, eA, (hbi z).1]; exact n2 z g) ?_
          rw [eC, (hKi z g).1, m1 z g, eA, (hbi z).1, m2 z g]
          refine j_callV (m' := mT_after) (As := [_, _]) (p2 := 63) dT_moveStates_60 rfl ml_T_126 ok_mT_after im_mT_after se_mT_after rfl rfl (Nat.le_of_ble_eq_true rfl) ly_21 rfl (Nat.le_of_ble_eq_true rfl) ⟨(Nat.le_of_ble_eq_true rfl), (Nat.le_of_ble_eq_true rfl)⟩ ?_
          refine cTd_after (fn_nnD (hf z g).2) (Or.inl rfl) (by omega) (hlτ z) ?_
          refine j_dastk (p2 := 64) dT_moveStates_63 rfl ly_24 (by decide) (by omega) (by omega) ?_
          refine j_iinc (p2 := 67) (lv' := [(0, _), (1, _), (2, _), (4, _)]) dT_moveStates_64 rfl (Nat.le_of_ble_eq_true rfl) rfl ⟨rfl, rfl, rfl, rfl, trivial⟩ ?_
          refine j_goto (p2 := 3) dT_moveStates_67 (by decide) ?_
          refine J.loc (lv' := [(0, _), (1, _), (2, _), (4, _)]) ⟨rfl, rfl, rfl, rfl, trivial⟩ ?_
          exact yes z g _ rfl (gaft_bdd (fn_nnD (hf z g).2))
  have start := loop (N + 1) 0 (by omega) (by omega) (hD σ 24) (fun m x y => by rw [pw_0]; exact hst m x y)
  rw [pw_0, lms_0, wD_id, wI_id] at start
  refine j_iconst (p2 := 1) dT_moveStates_0 rfl ?_
  refine j_istore (p2 := 3) (lv' := [(0, _), (1, _), (2, _), (4, _)]) dT_moveStates_1 rfl (Nat.le_of_ble_eq_true rfl) ⟨rfl, rfl, rfl, rfl, trivial⟩ ?_
  refine J.loc (lv' := [(0, _), (1, _), (2, _), (4, _)]) ⟨rfl, rfl, rfl, rfl, trivial⟩ ?_
  exact start
theorem cTf_moveStates_k1 {fr : Int → Int} {st bf K : Int → UInt32} {h : UInt32} {len : UInt64} {N : Nat} (hc : CtI σ fr N) (hfl : hI σ 34 3 = 1) (hlen : len = cvF h) (hh : MhF h) (hst : ∀ m : Int, 0 ≤ m → m < N → hD σ 37 m = cvF (st m) ∧ BdF (st m)) (hbf : ∀ m : Int, 0 ≤ m → m < N → hD σ 41 m = cvF (bf m) ∧ BdF (bf m)) (hK : ∀ m : Int, 0 ≤ m → m < N → hI σ 4 m = 2 → hD σ 43 m = cvF (K m) ∧ MkF (K m)) (hl : (∀ m : Int, 0 ≤ m → m < N → inR (hI σ 20 m)) ∧ inR (hI σ 19 1))
    (hQ : ∀ a, (∀ m : Int, 0 ≤ m → m < N → a m = cvF (pw st (gmvS arF (hI σ 4) h bf K st) N m) ∧ BdF (pw st (gmvS arF (hI σ 4) h bf K st) N m)) → Q none (wI (wD σ 37 a) 20 (lms (hI σ 20) (hI σ 19 1) (pw (fun _ => false) (gmvB arF (hI σ 4) h bf K) N)))) : Sp mT_moveStates [vR 34, vR 43, vD len] σ Q := by
  have hN := hc.1
  have hN2 := hc.2.1
  have loop : ∀ (n i : Nat), i ≤ N → N + 1 ≤ i + n → ∀ a, (∀ m : Int, 0 ≤ m → m < N → a m = cvF (pw st (gmvS arF (hI σ 4) h bf K st) i m) ∧ BdF (pw st (gmvS arF (hI σ 4) h bf K st) i m)) → J mT_moveStates 3 [(0, vR 34), (1, vR 43), (2, vD len), (4, vI i)] [] (wI (wD σ 37 a) 20 (lms (hI σ 20) (hI σ 19 1) (pw (fun _ => false) (gmvB arF (hI σ 4) h bf K) i))) Q := by
    intro n
    induction n with
    | zero => intro i h1 h2; exact absurd h2 (by omega)
    | succ n ih =>
      intro i h1 h2 a ha
      have kb : i < N → 0 ≤ hI σ 4 i ∧ hI σ 4 i < 14 := fun h => hc.2.2.1 i (by omega) (by omega)
      have hbi : i < N → hD σ 41 i = cvF (bf i) ∧ BdF (bf i) := fun z => hbf i (by omega) (by omega)
      have hKi : i < N → hI σ 4 i = 2 → hD σ 43 i = cvF (K i) ∧ MkF (K i) := fun z => hK i (by omega) (by omega)
      have hli : i < N → inR (hI σ 20 i) := fun z => hl.1 i (by omega) (by omega)
      obtain ⟨τ, hτ⟩ : ∃ τ, τ = wI (wD σ 37 a) 20 (lms (hI σ 20) (hI σ 19 1) (pw (fun _ => false) (gmvB arF (hI σ 4) h bf K) i)) := ⟨_, rfl⟩
      have eN : hI τ 3 0 = N := by rw [hτ]; exact hN
      have eK : hI τ 4 = hI σ 4 := by rw [hτ]; rfl
      have eA : hD τ 41 = hD σ 41 := by rw [hτ]; rfl
      have eC : hD τ 43 = hD σ 43 := by rw [hτ]; rfl
      have eS : hD τ 37 = a := by rw [hτ]; rfl
      have efl : hI τ 34 3 = 1 := by rw [hτ]; exact hfl
      have elo : hI τ 19 1 = hI σ 19 1 := by rw [hτ]; rfl
      have elm : hI τ 20 = lms (hI σ 20) (hI σ 19 1) (pw (fun _ => false) (gmvB arF (hI σ 4) h bf K) i) := by rw [hτ]; rfl
      have hlτ : i < N → inR (hI τ 20 i) := fun z => by rw [elm]; exact lms_inR (hli z) hl.2
      have no : i < N → ¬ hI σ 4 i = 2 → J mT_moveStates 3 [(0, vR 34), (1, vR 43), (2, vD len), (4, vI (i + 1))] [] τ Q := fun z g => by
        have e1 := pw_k2 (f := st) (g := gmvS arF (hI σ 4) h bf K st) (i := i) (if_neg g)
        have e2 := pw_k2 (f := fun _ => false) (g := gmvB arF (hI σ 4) h bf K) (i := i) (by unfold gmvB; rw [decide_eq_false g]; rfl)
        have := ih (i + 1) (by omega) (by omega) a (fun m x y => by rw [e1]; exact ha m x y)
        rw [e2, ← hτ] at this
        exact this
      have yes : i < N → hI σ 4 i = 2 → ∀ y, y = gaft arF (Aadd arF (bf i) (Amul arF h (K i))) → BdF y.1 → J mT_moveStates 3 [(0, vR 34), (1, vR 43), (2, vD len), (4, vI (i + 1))] [] (wD (wI τ 20 (lmp (hI τ 20) i (hI τ 19 1) y.2)) 37 (fup (hD τ 37) i (cvF y.1))) Q := fun z g y hy by1 => by
        have e1 : gmvS arF (hI σ 4) h bf K st i = y.1 := by unfold gmvS; rw [if_pos g, hy]; rfl
        have e2 : gmvB arF (hI σ 4) h bf K i = y.2 := by unfold gmvB; rw [decide_eq_true g, Bool.true_and, hy]; rfl
        have := ih (i + 1) (by omega) (by omega) (fup a i (cvF y.1)) (fun m x y0 => by
          rw [← pw_s, e1]
          unfold fup
          by_cases hk : m = i
          · rw [if_pos hk, if_pos hk]; exact ⟨rfl, by1⟩
          · rw [if_neg hk, if_neg hk]; exact ha m x y0)
        rw [elm, elo, eS, hτ, stf_step, lmp_lms, pw_at, Bool.false_or, ← e2, pw_s]
        exact this
      clear ih
      rw [← hτ]
      have hf := fun z g => mvF hh (hbi z).2 (hKi z g).2
      have m1 := fun z g => hcF_mul (mh_fnF hh) (mk_fnF (hKi z g).2)
      have n1 : i < N → hI σ 4 i = 2 → vf_n64 (FP.dmul (cvF h) (cvF (K i))) := fun z g => nn_mul (cvF_fn (mh_fnF hh)) (cvF_fn (mk_fnF (hKi z g).2))
      have m2 := fun z g => hcF_add (hbi z).2.fn (hf z g).1
      have n2 : i < N → hI σ 4 i = 2 → vf_n64 (FP.dadd (cvF (bf i)) (cvF (Amul arF h (K i)))) := fun z g => nn_add2 (cvF_fn (hbi z).2.fn) (cvF_fn (hf z g).1)
      subst hlen
      refine j_iload (p2 := 5) dT_moveStates_3 rfl rfl ?_
      refine j_aload_n (p2 := 6) dT_moveStates_5 rfl rfl ?_
      refine j_getR (p2 := 9) dT_moveStates_6 rfl fa_T_49 ly_34 rfl ?_
      refine j_getIk (p2 := 12) dT_moveStates_9 rfl fa_T_65 ly_3 rfl (ki := 0) rfl ?_
      refine j_icmp_ge (p2 := 15) (tg := 70) dT_moveStates_12 rfl (by decide) (by constructor <;> omega) (by rw [eN]; constructor <;> omega) (fun h12 => ?_) (fun h12 => ?_)
      · refine j_return dT_moveStates_70 rfl (by rw [eN] at h12; have e : i = N := (by omega); subst e; rw [hτ]; exact hQ a ha)
      · refine j_aload_n (p2 := 16) dT_moveStates_15 rfl rfl ?_
        refine j_getR (p2 := 19) dT_moveStates_16 rfl fa_T_49 ly_34 rfl ?_
        refine j_getR (p2 := 22) dT_moveStates_19 rfl fa_T_119 ly_3 rfl ?_
        refine j_iload (p2 := 24) dT_moveStates_22 rfl rfl ?_
        refine j_iald (p2 := 25) dT_moveStates_24 rfl ly_4 (by decide) (by omega) (by rw [eN] at h12; omega) ?_
        refine j_iconst (p2 := 26) dT_moveStates_25 rfl ?_
        refine j_icmp_ne (p2 := 29) (tg := 64) dT_moveStates_26 rfl (by decide) (by rw [eN] at h12; rw [eK]; have := kb (by omega); constructor <;> omega) (by constructor <;> omega) (fun h26 => ?_) (fun h26 => ?_)
        · refine j_iinc (p2 := 67) (lv' := [(0, _), (1, _), (2, _), (4, _)]) dT_moveStates_64 rfl (Nat.le_of_ble_eq_true rfl) rfl ⟨rfl, rfl, rfl, rfl, trivial⟩ ?_
          refine j_goto (p2 := 3) dT_moveStates_67 (by decide) ?_
          refine J.loc (lv' := [(0, _), (1, _), (2, _), (4, _)]) ⟨rfl, rfl, rfl, rfl, trivial⟩ ?_
          have g : ¬ hI σ 4 i = 2 := by rw [← eK]; exact h26
          rw [eN] at h12
          exact no (by omega) g
        · refine J.loc (lv' := [(0, _), (1, _), (2, _), (4, _)]) ⟨rfl, rfl, rfl, rfl, trivial⟩ ?_
          rw [eN] at h12
          have g : hI σ 4 i = 2 := by rw [← eK]; exact h26
          have z : i < N := by omega
          refine j_aload_n (p2 := 30) dT_moveStates_29 rfl rfl ?_
          refine j_getR (p2 := 33) dT_moveStates_30 rfl fa_T_18 ly_34 rfl ?_
          refine j_iload (p2 := 35) dT_moveStates_33 rfl rfl ?_
          refine j_aload_n (p2 := 36) dT_moveStates_35 rfl rfl ?_
          refine j_iload (p2 := 38) dT_moveStates_36 rfl rfl ?_
          refine j_aload_n (p2 := 39) dT_moveStates_38 rfl rfl ?_
          refine j_aload_n (p2 := 40) dT_moveStates_39 rfl rfl ?_
          refine j_getR (p2 := 43) dT_moveStates_40 rfl fa_T_31 ly_34 rfl ?_
          refine j_iload (p2 := 45) dT_moveStates_43 rfl rfl ?_
          refine j_dald (p2 := 46) dT_moveStates_45 rfl ly_41 (by decide) (by omega) (by omega) ?_
          refine j_aload_n (p2 := 47) dT_moveStates_46 rfl rfl ?_
          refine j_dload_n (p2 := 48) dT_moveStates_47 rfl rfl ?_
          refine j_aload_n (p2 := 49) dT_moveStates_48 rfl rfl ?_
          refine j_iload (p2 := 51) dT_moveStates_49 rfl rfl ?_
          refine j_dald (p2 := 52) dT_moveStates_51 rfl ly_43 (by decide) (by omega) (by omega) ?_
          refine j_dmul (p2 := 53) dT_moveStates_52 rfl (by rw [eC, (hKi z g).1]; exact n1 z g) ?_
          refine j_callV (m' := mT_rounded) (As := [_]) (p2 := 56) dT_moveStates_53 rfl ml_T_74 ok_mT_rounded im_mT_rounded se_mT_rounded rfl rfl (Nat.le_of_ble_eq_true rfl) ly_34 rfl (Nat.le_of_ble_eq_true rfl) ⟨(Nat.le_of_ble_eq_true rfl), (Nat.le_of_ble_eq_true rfl)⟩ ?_
          refine cTf_rounded efl (by rw [eC, (hKi z g).1]; exact n1 z g) ?_
          refine j_dadd (p2 := 57) dT_moveStates_56 rfl (by rw [eC, (hKi z g).1, m1 z g, eA, (hbi z).1]; exact n2 z g) ?_
          refine j_callV (m' := mT_rounded) (As := [_]) (p2 := 60) dT_moveStates_57 rfl ml_T_74 ok_mT_rounded im_mT_rounded se_mT_rounded rfl rfl (Nat.le_of_ble_eq_true rfl) ly_34 rfl (Nat.le_of_ble_eq_true rfl) ⟨(Nat.le_of_ble_eq_true rfl), (Nat.le_of_ble_eq_true rfl)⟩ ?_
          refine cTf_rounded efl (by rw [eC, (hKi z g).1, m1 z g, eA, (hbi z).1]; exact n2 z g) ?_
          rw [eC, (hKi z g).1, m1 z g, eA, (hbi z).1, m2 z g]
          refine j_callV (m' := mT_after) (As := [_, _]) (p2 := 63) dT_moveStates_60 rfl ml_T_126 ok_mT_after im_mT_after se_mT_after rfl rfl (Nat.le_of_ble_eq_true rfl) ly_34 rfl (Nat.le_of_ble_eq_true rfl) ⟨(Nat.le_of_ble_eq_true rfl), (Nat.le_of_ble_eq_true rfl)⟩ ?_
          refine cTf_after (fn_nnF (hf z g).2) (Or.inl rfl) (by omega) (hlτ z) ?_
          refine j_dastk (p2 := 64) dT_moveStates_63 rfl ly_37 (by decide) (by omega) (by omega) ?_
          refine j_iinc (p2 := 67) (lv' := [(0, _), (1, _), (2, _), (4, _)]) dT_moveStates_64 rfl (Nat.le_of_ble_eq_true rfl) rfl ⟨rfl, rfl, rfl, rfl, trivial⟩ ?_
          refine j_goto (p2 := 3) dT_moveStates_67 (by decide) ?_
          refine J.loc (lv' := [(0, _), (1, _), (2, _), (4, _)]) ⟨rfl, rfl, rfl, rfl, trivial⟩ ?_
          exact yes z g _ rfl (gaft_bdf (fn_nnF (hf z g).2))
  have start := loop (N + 1) 0 (by omega) (by omega) (hD σ 37) (fun m x y => by rw [pw_0]; exact hst m x y)
  rw [pw_0, lms_0, wD_id, wI_id] at start
  refine j_iconst (p2 := 1) dT_moveStates_0 rfl ?_
  refine j_istore (p2 := 3) (lv' := [(0, _), (1, _), (2, _), (4, _)]) dT_moveStates_1 rfl (Nat.le_of_ble_eq_true rfl) ⟨rfl, rfl, rfl, rfl, trivial⟩ ?_
  refine J.loc (lv' := [(0, _), (1, _), (2, _), (4, _)]) ⟨rfl, rfl, rfl, rfl, trivial⟩ ?_
  exact start
theorem cTf_moveStates_k2 {fr : Int → Int} {st bf K : Int → UInt32} {h : UInt32} {len : UInt64} {N : Nat} (hc : CtI σ fr N) (hfl : hI σ 34 3 = 1) (hlen : len = cvF h) (hh : MhF h) (hst : ∀ m : Int, 0 ≤ m → m < N → hD σ 37 m = cvF (st m) ∧ BdF (st m)) (hbf : ∀ m : Int, 0 ≤ m → m < N → hD σ 41 m = cvF (bf m) ∧ BdF (bf m)) (hK : ∀ m : Int, 0 ≤ m → m < N → hI σ 4 m = 2 → hD σ 44 m = cvF (K m) ∧ MkF (K m)) (hl : (∀ m : Int, 0 ≤ m → m < N → inR (hI σ 20 m)) ∧ inR (hI σ 19 1))
    (hQ : ∀ a, (∀ m : Int, 0 ≤ m → m < N → a m = cvF (pw st (gmvS arF (hI σ 4) h bf K st) N m) ∧ BdF (pw st (gmvS arF (hI σ 4) h bf K st) N m)) → Q none (wI (wD σ 37 a) 20 (lms (hI σ 20) (hI σ 19 1) (pw (fun _ => false) (gmvB arF (hI σ 4) h bf K) N)))) : Sp mT_moveStates [vR 34, vR 44, vD len] σ Q := by
  have hN := hc.1
  have hN2 := hc.2.1
  have loop : ∀ (n i : Nat), i ≤ N → N + 1 ≤ i + n → ∀ a, (∀ m : Int, 0 ≤ m → m < N → a m = cvF (pw st (gmvS arF (hI σ 4) h bf K st) i m) ∧ BdF (pw st (gmvS arF (hI σ 4) h bf K st) i m)) → J mT_moveStates 3 [(0, vR 34), (1, vR 44), (2, vD len), (4, vI i)] [] (wI (wD σ 37 a) 20 (lms (hI σ 20) (hI σ 19 1) (pw (fun _ => false) (gmvB arF (hI σ 4) h bf K) i))) Q := by
    intro n
    induction n with
    | zero => intro i h1 h2; exact absurd h2 (by omega)
    | succ n ih =>
      intro i h1 h2 a ha
      have kb : i < N → 0 ≤ hI σ 4 i ∧ hI σ 4 i < 14 := fun h => hc.2.2.1 i (by omega) (by omega)
      have hbi : i < N → hD σ 41 i = cvF (bf i) ∧ BdF (bf i) := fun z => hbf i (by omega) (by omega)
      have hKi : i < N → hI σ 4 i = 2 → hD σ 44 i = cvF (K i) ∧ MkF (K i) := fun z => hK i (by omega) (by omega)
      have hli : i < N → inR (hI σ 20 i) := fun z => hl.1 i (by omega) (by omega)
      obtain ⟨τ, hτ⟩ : ∃ τ, τ = wI (wD σ 37 a) 20 (lms (hI σ 20) (hI σ 19 1) (pw (fun _ => false) (gmvB arF (hI σ 4) h bf K) i)) := ⟨_, rfl⟩
      have eN : hI τ 3 0 = N := by rw [hτ]; exact hN
      have eK : hI τ 4 = hI σ 4 := by rw [hτ]; rfl
      have eA : hD τ 41 = hD σ 41 := by rw [hτ]; rfl
      have eC : hD τ 44 = hD σ 44 := by rw [hτ]; rfl
      have eS : hD τ 37 = a := by rw [hτ]; rfl
      have efl : hI τ 34 3 = 1 := by rw [hτ]; exact hfl
      have elo : hI τ 19 1 = hI σ 19 1 := by rw [hτ]; rfl
      have elm : hI τ 20 = lms (hI σ 20) (hI σ 19 1) (pw (fun _ => false) (gmvB arF (hI σ 4) h bf K) i) := by rw [hτ]; rfl
      have hlτ : i < N → inR (hI τ 20 i) := fun z => by rw [elm]; exact lms_inR (hli z) hl.2
      have no : i < N → ¬ hI σ 4 i = 2 → J mT_moveStates 3 [(0, vR 34), (1, vR 44), (2, vD len), (4, vI (i + 1))] [] τ Q := fun z g => by
        have e1 := pw_k2 (f := st) (g := gmvS arF (hI σ 4) h bf K st) (i := i) (if_neg g)
        have e2 := pw_k2 (f := fun _ => false) (g := gmvB arF (hI σ 4) h bf K) (i := i) (by unfold gmvB; rw [decide_eq_false g]; rfl)
        have := ih (i + 1) (by omega) (by omega) a (fun m x y => by rw [e1]; exact ha m x y)
        rw [e2, ← hτ] at this
        exact this
      have yes : i < N → hI σ 4 i = 2 → ∀ y, y = gaft arF (Aadd arF (bf i) (Amul arF h (K i))) → BdF y.1 → J mT_moveStates 3 [(0, vR 34), (1, vR 44), (2, vD len), (4, vI (i + 1))] [] (wD (wI τ 20 (lmp (hI τ 20) i (hI τ 19 1) y.2)) 37 (fup (hD τ 37) i (cvF y.1))) Q := fun z g y hy by1 => by
        have e1 : gmvS arF (hI σ 4) h bf K st i = y.1 := by unfold gmvS; rw [if_pos g, hy]; rfl
        have e2 : gmvB arF (hI σ 4) h bf K i = y.2 := by unfold gmvB; rw [decide_eq_true g, Bool.true_and, hy]; rfl
        have := ih (i + 1) (by omega) (by omega) (fup a i (cvF y.1)) (fun m x y0 => by
          rw [← pw_s, e1]
          unfold fup
          by_cases hk : m = i
          · rw [if_pos hk, if_pos hk]; exact ⟨rfl, by1⟩
          · rw [if_neg hk, if_neg hk]; exact ha m x y0)
        rw [elm, elo, eS, hτ, stf_step, lmp_lms, pw_at, Bool.false_or, ← e2, pw_s]
        exact this
      clear ih
      rw [← hτ]
      have hf := fun z g => mvF hh (hbi z).2 (hKi z g).2
      have m1 := fun z g => hcF_mul (mh_fnF hh) (mk_fnF (hKi z g).2)
      have n1 : i < N → hI σ 4 i = 2 → vf_n64 (FP.dmul (cvF h) (cvF (K i))) := fun z g => nn_mul (cvF_fn (mh_fnF hh)) (cvF_fn (mk_fnF (hKi z g).2))
      have m2 := fun z g => hcF_add (hbi z).2.fn (hf z g).1
      have n2 : i < N → hI σ 4 i = 2 → vf_n64 (FP.dadd (cvF (bf i)) (cvF (Amul arF h (K i)))) := fun z g => nn_add2 (cvF_fn (hbi z).2.fn) (cvF_fn (hf z g).1)
      subst hlen
      refine j_iload (p2 := 5) dT_moveStates_3 rfl rfl ?_
      refine j_aload_n (p2 := 6) dT_moveStates_5 rfl rfl ?_
      refine j_getR (p2 := 9) dT_moveStates_6 rfl fa_T_49 ly_34 rfl ?_
      refine j_getIk (p2 := 12) dT_moveStates_9 rfl fa_T_65 ly_3 rfl (ki := 0) rfl ?_
      refine j_icmp_ge (p2 := 15) (tg := 70) dT_moveStates_12 rfl (by decide) (by constructor <;> omega) (by rw [eN]; constructor <;> omega) (fun h12 => ?_) (fun h12 => ?_)
      · refine j_return dT_moveStates_70 rfl (by rw [eN] at h12; have e : i = N := (by omega); subst e; rw [hτ]; exact hQ a ha)
      · refine j_aload_n (p2 := 16) dT_moveStates_15 rfl rfl ?_
        refine j_getR (p2 := 19) dT_moveStates_16 rfl fa_T_49 ly_34 rfl ?_
        refine j_getR (p2 := 22) dT_moveStates_19 rfl fa_T_119 ly_3 rfl ?_
        refine j_iload (p2 := 24) dT_moveStates_22 rfl rfl ?_
        refine j_iald (p2 := 25) dT_moveStates_24 rfl ly_4 (by decide) (by omega) (by rw [eN] at h12; omega) ?_
        refine j_iconst (p2 := 26) dT_moveStates_25 rfl ?_
        refine j_icmp_ne (p2 := 29) (tg := 64) dT_moveStates_26 rfl (by decide) (by rw [eN] at h12; rw [eK]; have := kb (by omega); constructor <;> omega) (by constructor <;> omega) (fun h26 => ?_) (fun h26 => ?_)
        · refine j_iinc (p2 := 67) (lv' := [(0, _), (1, _), (2, _), (4, _)]) dT_moveStates_64 rfl (Nat.le_of_ble_eq_true rfl) rfl ⟨rfl, rfl, rfl, rfl, trivial⟩ ?_
          refine j_goto (p2 := 3) dT_moveStates_67 (by decide) ?_
          refine J.loc (lv' := [(0, _), (1, _), (2, _), (4, _)]) ⟨rfl, rfl, rfl, rfl, trivial⟩ ?_
          have g : ¬ hI σ 4 i = 2 := by rw [← eK]; exact h26
          rw [eN] at h12
          exact no (by omega) g
        · refine J.loc (lv' := [(0, _), (1, _), (2, _), (4, _)]) ⟨rfl, rfl, rfl, rfl, trivial⟩ ?_
          rw [eN] at h12
          have g : hI σ 4 i = 2 := by rw [← eK]; exact h26
          have z : i < N := by omega
          refine j_aload_n (p2 := 30) dT_moveStates_29 rfl rfl ?_
          refine j_getR (p2 := 33) dT_moveStates_30 rfl fa_T_18 ly_34 rfl ?_
          refine j_iload (p2 := 35) dT_moveStates_33 rfl rfl ?_
          refine j_aload_n (p2 := 36) dT_moveStates_35 rfl rfl ?_
          refine j_iload (p2 := 38) dT_moveStates_36 rfl rfl ?_
          refine j_aload_n (p2 := 39) dT_moveStates_38 rfl rfl ?_
          refine j_aload_n (p2 := 40) dT_moveStates_39 rfl rfl ?_
          refine j_getR (p2 := 43) dT_moveStates_40 rfl fa_T_31 ly_34 rfl ?_
          refine j_iload (p2 := 45) dT_moveStates_43 rfl rfl ?_
          refine j_dald (p2 := 46) dT_moveStates_45 rfl ly_41 (by decide) (by omega) (by omega) ?_
          refine j_aload_n (p2 := 47) dT_moveStates_46 rfl rfl ?_
          refine j_dload_n (p2 := 48) dT_moveStates_47 rfl rfl ?_
          refine j_aload_n (p2 := 49) dT_moveStates_48 rfl rfl ?_
          refine j_iload (p2 := 51) dT_moveStates_49 rfl rfl ?_
          refine j_dald (p2 := 52) dT_moveStates_51 rfl ly_44 (by decide) (by omega) (by omega) ?_
          refine j_dmul (p2 := 53) dT_moveStates_52 rfl (by rw [eC, (hKi z g).1]; exact n1 z g) ?_
          refine j_callV (m' := mT_rounded) (As := [_]) (p2 := 56) dT_moveStates_53 rfl ml_T_74 ok_mT_rounded im_mT_rounded se_mT_rounded rfl rfl (Nat.le_of_ble_eq_true rfl) ly_34 rfl (Nat.le_of_ble_eq_true rfl) ⟨(Nat.le_of_ble_eq_true rfl), (Nat.le_of_ble_eq_true rfl)⟩ ?_
          refine cTf_rounded efl (by rw [eC, (hKi z g).1]; exact n1 z g) ?_
          refine j_dadd (p2 := 57) dT_moveStates_56 rfl (by rw [eC, (hKi z g).1, m1 z g, eA, (hbi z).1]; exact n2 z g) ?_
          refine j_callV (m' := mT_rounded) (As := [_]) (p2 := 60) dT_moveStates_57 rfl ml_T_74 ok_mT_rounded im_mT_rounded se_mT_rounded rfl rfl (Nat.le_of_ble_eq_true rfl) ly_34 rfl (Nat.le_of_ble_eq_true rfl) ⟨(Nat.le_of_ble_eq_true rfl), (Nat.le_of_ble_eq_true rfl)⟩ ?_
          refine cTf_rounded efl (by rw [eC, (hKi z g).1, m1 z g, eA, (hbi z).1]; exact n2 z g) ?_
          rw [eC, (hKi z g).1, m1 z g, eA, (hbi z).1, m2 z g]
          refine j_callV (m' := mT_after) (As := [_, _]) (p2 := 63) dT_moveStates_60 rfl ml_T_126 ok_mT_after im_mT_after se_mT_after rfl rfl (Nat.le_of_ble_eq_true rfl) ly_34 rfl (Nat.le_of_ble_eq_true rfl) ⟨(Nat.le_of_ble_eq_true rfl), (Nat.le_of_ble_eq_true rfl)⟩ ?_
          refine cTf_after (fn_nnF (hf z g).2) (Or.inl rfl) (by omega) (hlτ z) ?_
          refine j_dastk (p2 := 64) dT_moveStates_63 rfl ly_37 (by decide) (by omega) (by omega) ?_
          refine j_iinc (p2 := 67) (lv' := [(0, _), (1, _), (2, _), (4, _)]) dT_moveStates_64 rfl (Nat.le_of_ble_eq_true rfl) rfl ⟨rfl, rfl, rfl, rfl, trivial⟩ ?_
          refine j_goto (p2 := 3) dT_moveStates_67 (by decide) ?_
          refine J.loc (lv' := [(0, _), (1, _), (2, _), (4, _)]) ⟨rfl, rfl, rfl, rfl, trivial⟩ ?_
          exact yes z g _ rfl (gaft_bdf (fn_nnF (hf z g).2))
  have start := loop (N + 1) 0 (by omega) (by omega) (hD σ 37) (fun m x y => by rw [pw_0]; exact hst m x y)
  rw [pw_0, lms_0, wD_id, wI_id] at start
  refine j_iconst (p2 := 1) dT_moveStates_0 rfl ?_
  refine j_istore (p2 := 3) (lv' := [(0, _), (1, _), (2, _), (4, _)]) dT_moveStates_1 rfl (Nat.le_of_ble_eq_true rfl) ⟨rfl, rfl, rfl, rfl, trivial⟩ ?_
  refine J.loc (lv' := [(0, _), (1, _), (2, _), (4, _)]) ⟨rfl, rfl, rfl, rfl, trivial⟩ ?_
  exact start
theorem cTf_moveStates_k3 {fr : Int → Int} {st bf K : Int → UInt32} {h : UInt32} {len : UInt64} {N : Nat} (hc : CtI σ fr N) (hfl : hI σ 34 3 = 1) (hlen : len = cvF h) (hh : MhF h) (hst : ∀ m : Int, 0 ≤ m → m < N → hD σ 37 m = cvF (st m) ∧ BdF (st m)) (hbf : ∀ m : Int, 0 ≤ m → m < N → hD σ 41 m = cvF (bf m) ∧ BdF (bf m)) (hK : ∀ m : Int, 0 ≤ m → m < N → hI σ 4 m = 2 → hD σ 45 m = cvF (K m) ∧ MkF (K m)) (hl : (∀ m : Int, 0 ≤ m → m < N → inR (hI σ 20 m)) ∧ inR (hI σ 19 1))
    (hQ : ∀ a, (∀ m : Int, 0 ≤ m → m < N → a m = cvF (pw st (gmvS arF (hI σ 4) h bf K st) N m) ∧ BdF (pw st (gmvS arF (hI σ 4) h bf K st) N m)) → Q none (wI (wD σ 37 a) 20 (lms (hI σ 20) (hI σ 19 1) (pw (fun _ => false) (gmvB arF (hI σ 4) h bf K) N)))) : Sp mT_moveStates [vR 34, vR 45, vD len] σ Q := by
  have hN := hc.1
  have hN2 := hc.2.1
  have loop : ∀ (n i : Nat), i ≤ N → N + 1 ≤ i + n → ∀ a, (∀ m : Int, 0 ≤ m → m < N → a m = cvF (pw st (gmvS arF (hI σ 4) h bf K st) i m) ∧ BdF (pw st (gmvS arF (hI σ 4) h bf K st) i m)) → J mT_moveStates 3 [(0, vR 34), (1, vR 45), (2, vD len), (4, vI i)] [] (wI (wD σ 37 a) 20 (lms (hI σ 20) (hI σ 19 1) (pw (fun _ => false) (gmvB arF (hI σ 4) h bf K) i))) Q := by
    intro n
    induction n with
    | zero => intro i h1 h2; exact absurd h2 (by omega)
    | succ n ih =>
      intro i h1 h2 a ha
      have kb : i < N → 0 ≤ hI σ 4 i ∧ hI σ 4 i < 14 := fun h => hc.2.2.1 i (by omega) (by omega)
      have hbi : i < N → hD σ 41 i = cvF (bf i) ∧ BdF (bf i) := fun z => hbf i (by omega) (by omega)
      have hKi : i < N → hI σ 4 i = 2 → hD σ 45 i = cvF (K i) ∧ MkF (K i) := fun z => hK i (by omega) (by omega)
      have hli : i < N → inR (hI σ 20 i) := fun z => hl.1 i (by omega) (by omega)
      obtain ⟨τ, hτ⟩ : ∃ τ, τ = wI (wD σ 37 a) 20 (lms (hI σ 20) (hI σ 19 1) (pw (fun _ => false) (gmvB arF (hI σ 4) h bf K) i)) := ⟨_, rfl⟩
      have eN : hI τ 3 0 = N := by rw [hτ]; exact hN
      have eK : hI τ 4 = hI σ 4 := by rw [hτ]; rfl
      have eA : hD τ 41 = hD σ 41 := by rw [hτ]; rfl
      have eC : hD τ 45 = hD σ 45 := by rw [hτ]; rfl
      have eS : hD τ 37 = a := by rw [hτ]; rfl
      have efl : hI τ 34 3 = 1 := by rw [hτ]; exact hfl
      have elo : hI τ 19 1 = hI σ 19 1 := by rw [hτ]; rfl
      have elm : hI τ 20 = lms (hI σ 20) (hI σ 19 1) (pw (fun _ => false) (gmvB arF (hI σ 4) h bf K) i) := by rw [hτ]; rfl
      have hlτ : i < N → inR (hI τ 20 i) := fun z => by rw [elm]; exact lms_inR (hli z) hl.2
      have no : i < N → ¬ hI σ 4 i = 2 → J mT_moveStates 3 [(0, vR 34), (1, vR 45), (2, vD len), (4, vI (i + 1))] [] τ Q := fun z g => by
        have e1 := pw_k2 (f := st) (g := gmvS arF (hI σ 4) h bf K st) (i := i) (if_neg g)
        have e2 := pw_k2 (f := fun _ => false) (g := gmvB arF (hI σ 4) h bf K) (i := i) (by unfold gmvB; rw [decide_eq_false g]; rfl)
        have := ih (i + 1) (by omega) (by omega) a (fun m x y => by rw [e1]; exact ha m x y)
        rw [e2, ← hτ] at this
        exact this
      have yes : i < N → hI σ 4 i = 2 → ∀ y, y = gaft arF (Aadd arF (bf i) (Amul arF h (K i))) → BdF y.1 → J mT_moveStates 3 [(0, vR 34), (1, vR 45), (2, vD len), (4, vI (i + 1))] [] (wD (wI τ 20 (lmp (hI τ 20) i (hI τ 19 1) y.2)) 37 (fup (hD τ 37) i (cvF y.1))) Q := fun z g y hy by1 => by
        have e1 : gmvS arF (hI σ 4) h bf K st i = y.1 := by unfold gmvS; rw [if_pos g, hy]; rfl
        have e2 : gmvB arF (hI σ 4) h bf K i = y.2 := by unfold gmvB; rw [decide_eq_true g, Bool.true_and, hy]; rfl
        have := ih (i + 1) (by omega) (by omega) (fup a i (cvF y.1)) (fun m x y0 => by
          rw [← pw_s, e1]
          unfold fup
          by_cases hk : m = i
          · rw [if_pos hk, if_pos hk]; exact ⟨rfl, by1⟩
          · rw [if_neg hk, if_neg hk]; exact ha m x y0)
        rw [elm, elo, eS, hτ, stf_step, lmp_lms, pw_at, Bool.false_or, ← e2, pw_s]
        exact this
      clear ih
      rw [← hτ]
      have hf := fun z g => mvF hh (hbi z).2 (hKi z g).2
      have m1 := fun z g => hcF_mul (mh_fnF hh) (mk_fnF (hKi z g).2)
      have n1 : i < N → hI σ 4 i = 2 → vf_n64 (FP.dmul (cvF h) (cvF (K i))) := fun z g => nn_mul (cvF_fn (mh_fnF hh)) (cvF_fn (mk_fnF (hKi z g).2))
      have m2 := fun z g => hcF_add (hbi z).2.fn (hf z g).1
      have n2 : i < N → hI σ 4 i = 2 → vf_n64 (FP.dadd (cvF (bf i)) (cvF (Amul arF h (K i)))) := fun z g => nn_add2 (cvF_fn (hbi z).2.fn) (cvF_fn (hf z g).1)
      subst hlen
      refine j_iload (p2 := 5) dT_moveStates_3 rfl rfl ?_
      refine j_aload_n (p2 := 6) dT_moveStates_5 rfl rfl ?_
      refine j_getR (p2 := 9) dT_moveStates_6 rfl fa_T_49 ly_34 rfl ?_
      refine j_getIk (p2 := 12) dT_moveStates_9 rfl fa_T_65 ly_3 rfl (ki := 0) rfl ?_
      refine j_icmp_ge (p2 := 15) (tg := 70) dT_moveStates_12 rfl (by decide) (by constructor <;> omega) (by rw [eN]; constructor <;> omega) (fun h12 => ?_) (fun h12 => ?_)
      · refine j_return dT_moveStates_70 rfl (by rw [eN] at h12; have e : i = N := (by omega); subst e; rw [hτ]; exact hQ a ha)
      · refine j_aload_n (p2 := 16) dT_moveStates_15 rfl rfl ?_
        refine j_getR (p2 := 19) dT_moveStates_16 rfl fa_T_49 ly_34 rfl ?_
        refine j_getR (p2 := 22) dT_moveStates_19 rfl fa_T_119 ly_3 rfl ?_
        refine j_iload (p2 := 24) dT_moveStates_22 rfl rfl ?_
        refine j_iald (p2 := 25) dT_moveStates_24 rfl ly_4 (by decide) (by omega) (by rw [eN] at h12; omega) ?_
        refine j_iconst (p2 := 26) dT_moveStates_25 rfl ?_
        refine j_icmp_ne (p2 := 29) (tg := 64) dT_moveStates_26 rfl (by decide) (by rw [eN] at h12; rw [eK]; have := kb (by omega); constructor <;> omega) (by constructor <;> omega) (fun h26 => ?_) (fun h26 => ?_)
        · refine j_iinc (p2 := 67) (lv' := [(0, _), (1, _), (2, _), (4, _)]) dT_moveStates_64 rfl (Nat.le_of_ble_eq_true rfl) rfl ⟨rfl, rfl, rfl, rfl, trivial⟩ ?_
          refine j_goto (p2 := 3) dT_moveStates_67 (by decide) ?_
          refine J.loc (lv' := [(0, _), (1, _), (2, _), (4, _)]) ⟨rfl, rfl, rfl, rfl, trivial⟩ ?_
          have g : ¬ hI σ 4 i = 2 := by rw [← eK]; exact h26
          rw [eN] at h12
          exact no (by omega) g
        · refine J.loc (lv' := [(0, _), (1, _), (2, _), (4, _)]) ⟨rfl, rfl, rfl, rfl, trivial⟩ ?_
          rw [eN] at h12
          have g : hI σ 4 i = 2 := by rw [← eK]; exact h26
          have z : i < N := by omega
          refine j_aload_n (p2 := 30) dT_moveStates_29 rfl rfl ?_
          refine j_getR (p2 := 33) dT_moveStates_30 rfl fa_T_18 ly_34 rfl ?_
          refine j_iload (p2 := 35) dT_moveStates_33 rfl rfl ?_
          refine j_aload_n (p2 := 36) dT_moveStates_35 rfl rfl ?_
          refine j_iload (p2 := 38) dT_moveStates_36 rfl rfl ?_
          refine j_aload_n (p2 := 39) dT_moveStates_38 rfl rfl ?_
          refine j_aload_n (p2 := 40) dT_moveStates_39 rfl rfl ?_
          refine j_getR (p2 := 43) dT_moveStates_40 rfl fa_T_31 ly_34 rfl ?_
          refine j_iload (p2 := 45) dT_moveStates_43 rfl rfl ?_
          refine j_dald (p2 := 46) dT_moveStates_45 rfl ly_41 (by decide) (by omega) (by omega) ?_
          refine j_aload_n (p2 := 47) dT_moveStates_46 rfl rfl ?_
          refine j_dload_n (p2 := 48) dT_moveStates_47 rfl rfl ?_
          refine j_aload_n (p2 := 49) dT_moveStates_48 rfl rfl ?_
          refine j_iload (p2 := 51) dT_moveStates_49 rfl rfl ?_
          refine j_dald (p2 := 52) dT_moveStates_51 rfl ly_45 (by decide) (by omega) (by omega) ?_
          refine j_dmul (p2 := 53) dT_moveStates_52 rfl (by rw [eC, (hKi z g).1]; exact n1 z g) ?_
          refine j_callV (m' := mT_rounded) (As := [_]) (p2 := 56) dT_moveStates_53 rfl ml_T_74 ok_mT_rounded im_mT_rounded se_mT_rounded rfl rfl (Nat.le_of_ble_eq_true rfl) ly_34 rfl (Nat.le_of_ble_eq_true rfl) ⟨(Nat.le_of_ble_eq_true rfl), (Nat.le_of_ble_eq_true rfl)⟩ ?_
          refine cTf_rounded efl (by rw [eC, (hKi z g).1]; exact n1 z g) ?_
          refine j_dadd (p2 := 57) dT_moveStates_56 rfl (by rw [eC, (hKi z g).1, m1 z g, eA, (hbi z).1]; exact n2 z g) ?_
          refine j_callV (m' := mT_rounded) (As := [_]) (p2 := 60) dT_moveStates_57 rfl ml_T_74 ok_mT_rounded im_mT_rounded se_mT_rounded rfl rfl (Nat.le_of_ble_eq_true rfl) ly_34 rfl (Nat.le_of_ble_eq_true rfl) ⟨(Nat.le_of_ble_eq_true rfl), (Nat.le_of_ble_eq_true rfl)⟩ ?_
          refine cTf_rounded efl (by rw [eC, (hKi z g).1, m1 z g, eA, (hbi z).1]; exact n2 z g) ?_
          rw [eC, (hKi z g).1, m1 z g, eA, (hbi z).1, m2 z g]
          refine j_callV (m' := mT_after) (As := [_, _]) (p2 := 63) dT_moveStates_60 rfl ml_T_126 ok_mT_after im_mT_after se_mT_after rfl rfl (Nat.le_of_ble_eq_true rfl) ly_34 rfl (Nat.le_of_ble_eq_true rfl) ⟨(Nat.le_of_ble_eq_true rfl), (Nat.le_of_ble_eq_true rfl)⟩ ?_
          refine cTf_after (fn_nnF (hf z g).2) (Or.inl rfl) (by omega) (hlτ z) ?_
          refine j_dastk (p2 := 64) dT_moveStates_63 rfl ly_37 (by decide) (by omega) (by omega) ?_
          refine j_iinc (p2 := 67) (lv' := [(0, _), (1, _), (2, _), (4, _)]) dT_moveStates_64 rfl (Nat.le_of_ble_eq_true rfl) rfl ⟨rfl, rfl, rfl, rfl, trivial⟩ ?_
          refine j_goto (p2 := 3) dT_moveStates_67 (by decide) ?_
          refine J.loc (lv' := [(0, _), (1, _), (2, _), (4, _)]) ⟨rfl, rfl, rfl, rfl, trivial⟩ ?_
          exact yes z g _ rfl (gaft_bdf (fn_nnF (hf z g).2))
  have start := loop (N + 1) 0 (by omega) (by omega) (hD σ 37) (fun m x y => by rw [pw_0]; exact hst m x y)
  rw [pw_0, lms_0, wD_id, wI_id] at start
  refine j_iconst (p2 := 1) dT_moveStates_0 rfl ?_
  refine j_istore (p2 := 3) (lv' := [(0, _), (1, _), (2, _), (4, _)]) dT_moveStates_1 rfl (Nat.le_of_ble_eq_true rfl) ⟨rfl, rfl, rfl, rfl, trivial⟩ ?_
  refine J.loc (lv' := [(0, _), (1, _), (2, _), (4, _)]) ⟨rfl, rfl, rfl, rfl, trivial⟩ ?_
  exact start
theorem cTt_moveStates_k1 {fr : Int → Int} {st bf K : Int → UInt64} {h : UInt64} {len : UInt64} {N : Nat} (hc : CtI σ fr N) (hfl : hI σ 56 3 = 0) (hlen : len = cvD h) (hh : MhD h) (hst : ∀ m : Int, 0 ≤ m → m < N → hD σ 59 m = cvD (st m) ∧ BdD (st m)) (hbf : ∀ m : Int, 0 ≤ m → m < N → hD σ 63 m = cvD (bf m) ∧ BdD (bf m)) (hK : ∀ m : Int, 0 ≤ m → m < N → hI σ 4 m = 2 → hD σ 65 m = cvD (K m) ∧ MkD (K m)) (hl : (∀ m : Int, 0 ≤ m → m < N → inR (hI σ 55 m)) ∧ inR (hI σ 54 1))
    (hQ : ∀ a, (∀ m : Int, 0 ≤ m → m < N → a m = cvD (pw st (gmvS arD (hI σ 4) h bf K st) N m) ∧ BdD (pw st (gmvS arD (hI σ 4) h bf K st) N m)) → Q none (wI (wD σ 59 a) 55 (lms (hI σ 55) (hI σ 54 1) (pw (fun _ => false) (gmvB arD (hI σ 4) h bf K) N)))) : Sp mT_moveStates [vR 56, vR 65, vD len] σ Q := by
  have hN := hc.1
  have hN2 := hc.2.1
  have loop : ∀ (n i : Nat), i ≤ N → N + 1 ≤ i + n → ∀ a, (∀ m : Int, 0 ≤ m → m < N → a m = cvD (pw st (gmvS arD (hI σ 4) h bf K st) i m) ∧ BdD (pw st (gmvS arD (hI σ 4) h bf K st) i m)) → J mT_moveStates 3 [(0, vR 56), (1, vR 65), (2, vD len), (4, vI i)] [] (wI (wD σ 59 a) 55 (lms (hI σ 55) (hI σ 54 1) (pw (fun _ => false) (gmvB arD (hI σ 4) h bf K) i))) Q := by
    intro n
    induction n with
    | zero => intro i h1 h2; exact absurd h2 (by omega)
    | succ n ih =>
      intro i h1 h2 a ha
      have kb : i < N → 0 ≤ hI σ 4 i ∧ hI σ 4 i < 14 := fun h => hc.2.2.1 i (by omega) (by omega)
      have hbi : i < N → hD σ 63 i = cvD (bf i) ∧ BdD (bf i) := fun z => hbf i (by omega) (by omega)
      have hKi : i < N → hI σ 4 i = 2 → hD σ 65 i = cvD (K i) ∧ MkD (K i) := fun z => hK i (by omega) (by omega)
      have hli : i < N → inR (hI σ 55 i) := fun z => hl.1 i (by omega) (by omega)
      obtain ⟨τ, hτ⟩ : ∃ τ, τ = wI (wD σ 59 a) 55 (lms (hI σ 55) (hI σ 54 1) (pw (fun _ => false) (gmvB arD (hI σ 4) h bf K) i)) := ⟨_, rfl⟩
      have eN : hI τ 3 0 = N := by rw [hτ]; exact hN
      have eK : hI τ 4 = hI σ 4 := by rw [hτ]; rfl
      have eA : hD τ 63 = hD σ 63 := by rw [hτ]; rfl
      have eC : hD τ 65 = hD σ 65 := by rw [hτ]; rfl
      have eS : hD τ 59 = a := by rw [hτ]; rfl
      have efl : hI τ 56 3 = 0 := by rw [hτ]; exact hfl
      have elo : hI τ 54 1 = hI σ 54 1 := by rw [hτ]; rfl
      have elm : hI τ 55 = lms (hI σ 55) (hI σ 54 1) (pw (fun _ => false) (gmvB arD (hI σ 4) h bf K) i) := by rw [hτ]; rfl
      have hlτ : i < N → inR (hI τ 55 i) := fun z => by rw [elm]; exact lms_inR (hli z) hl.2
      have no : i < N → ¬ hI σ 4 i = 2 → J mT_moveStates 3 [(0, vR 56), (1, vR 65), (2, vD len), (4, vI (i + 1))] [] τ Q := fun z g => by
        have e1 := pw_k2 (f := st) (g := gmvS arD (hI σ 4) h bf K st) (i := i) (if_neg g)
        have e2 := pw_k2 (f := fun _ => false) (g := gmvB arD (hI σ 4) h bf K) (i := i) (by unfold gmvB; rw [decide_eq_false g]; rfl)
        have := ih (i + 1) (by omega) (by omega) a (fun m x y => by rw [e1]; exact ha m x y)
        rw [e2, ← hτ] at this
        exact this
      have yes : i < N → hI σ 4 i = 2 → ∀ y, y = gaft arD (Aadd arD (bf i) (Amul arD h (K i))) → BdD y.1 → J mT_moveStates 3 [(0, vR 56), (1, vR 65), (2, vD len), (4, vI (i + 1))] [] (wD (wI τ 55 (lmp (hI τ 55) i (hI τ 54 1) y.2)) 59 (fup (hD τ 59) i (cvD y.1))) Q := fun z g y hy by1 => by
        have e1 : gmvS arD (hI σ 4) h bf K st i = y.1 := by unfold gmvS; rw [if_pos g, hy]; rfl
        have e2 : gmvB arD (hI σ 4) h bf K i = y.2 := by unfold gmvB; rw [decide_eq_true g, Bool.true_and, hy]; rfl
        have := ih (i + 1) (by omega) (by omega) (fup a i (cvD y.1)) (fun m x y0 => by
          rw [← pw_s, e1]
          unfold fup
          by_cases hk : m = i
          · rw [if_pos hk, if_pos hk]; exact ⟨rfl, by1⟩
          · rw [if_neg hk, if_neg hk]; exact ha m x y0)
        rw [elm, elo, eS, hτ, stt_step, lmp_lms, pw_at, Bool.false_or, ← e2, pw_s]
        exact this
      clear ih
      rw [← hτ]
      have hf := fun z g => mvD hh (hbi z).2 (hKi z g).2
      have m1 := fun z g => hcD_mul (mh_fnD hh) (mk_fnD (hKi z g).2)
      have n1 : i < N → hI σ 4 i = 2 → vf_n64 (FP.dmul (cvD h) (cvD (K i))) := fun z g => nn_mul (cvD_fn (mh_fnD hh)) (cvD_fn (mk_fnD (hKi z g).2))
      have m2 := fun z g => hcD_add (hbi z).2.fn (hf z g).1
      have n2 : i < N → hI σ 4 i = 2 → vf_n64 (FP.dadd (cvD (bf i)) (cvD (Amul arD h (K i)))) := fun z g => nn_add2 (cvD_fn (hbi z).2.fn) (cvD_fn (hf z g).1)
      subst hlen
      refine j_iload (p2 := 5) dT_moveStates_3 rfl rfl ?_
      refine j_aload_n (p2 := 6) dT_moveStates_5 rfl rfl ?_
      refine j_getR (p2 := 9) dT_moveStates_6 rfl fa_T_49 ly_56 rfl ?_
      refine j_getIk (p2 := 12) dT_moveStates_9 rfl fa_T_65 ly_3 rfl (ki := 0) rfl ?_
      refine j_icmp_ge (p2 := 15) (tg := 70) dT_moveStates_12 rfl (by decide) (by constructor <;> omega) (by rw [eN]; constructor <;> omega) (fun h12 => ?_) (fun h12 => ?_)
      · refine j_return dT_moveStates_70 rfl (by rw [eN] at h12; have e : i = N := (by omega); subst e; rw [hτ]; exact hQ a ha)
      · refine j_aload_n (p2 := 16) dT_moveStates_15 rfl rfl ?_
        refine j_getR (p2 := 19) dT_moveStates_16 rfl fa_T_49 ly_56 rfl ?_
        refine j_getR (p2 := 22) dT_moveStates_19 rfl fa_T_119 ly_3 rfl ?_
        refine j_iload (p2 := 24) dT_moveStates_22 rfl rfl ?_
        refine j_iald (p2 := 25) dT_moveStates_24 rfl ly_4 (by decide) (by omega) (by rw [eN] at h12; omega) ?_
        refine j_iconst (p2 := 26) dT_moveStates_25 rfl ?_
        refine j_icmp_ne (p2 := 29) (tg := 64) dT_moveStates_26 rfl (by decide) (by rw [eN] at h12; rw [eK]; have := kb (by omega); constructor <;> omega) (by constructor <;> omega) (fun h26 => ?_) (fun h26 => ?_)
        · refine j_iinc (p2 := 67) (lv' := [(0, _), (1, _), (2, _), (4, _)]) dT_moveStates_64 rfl (Nat.le_of_ble_eq_true rfl) rfl ⟨rfl, rfl, rfl, rfl, trivial⟩ ?_
          refine j_goto (p2 := 3) dT_moveStates_67 (by decide) ?_
          refine J.loc (lv' := [(0, _), (1, _), (2, _), (4, _)]) ⟨rfl, rfl, rfl, rfl, trivial⟩ ?_
          have g : ¬ hI σ 4 i = 2 := by rw [← eK]; exact h26
          rw [eN] at h12
          exact no (by omega) g
        · refine J.loc (lv' := [(0, _), (1, _), (2, _), (4, _)]) ⟨rfl, rfl, rfl, rfl, trivial⟩ ?_
          rw [eN] at h12
          have g : hI σ 4 i = 2 := by rw [← eK]; exact h26
          have z : i < N := by omega
          refine j_aload_n (p2 := 30) dT_moveStates_29 rfl rfl ?_
          refine j_getR (p2 := 33) dT_moveStates_30 rfl fa_T_18 ly_56 rfl ?_
          refine j_iload (p2 := 35) dT_moveStates_33 rfl rfl ?_
          refine j_aload_n (p2 := 36) dT_moveStates_35 rfl rfl ?_
          refine j_iload (p2 := 38) dT_moveStates_36 rfl rfl ?_
          refine j_aload_n (p2 := 39) dT_moveStates_38 rfl rfl ?_
          refine j_aload_n (p2 := 40) dT_moveStates_39 rfl rfl ?_
          refine j_getR (p2 := 43) dT_moveStates_40 rfl fa_T_31 ly_56 rfl ?_
          refine j_iload (p2 := 45) dT_moveStates_43 rfl rfl ?_
          refine j_dald (p2 := 46) dT_moveStates_45 rfl ly_63 (by decide) (by omega) (by omega) ?_
          refine j_aload_n (p2 := 47) dT_moveStates_46 rfl rfl ?_
          refine j_dload_n (p2 := 48) dT_moveStates_47 rfl rfl ?_
          refine j_aload_n (p2 := 49) dT_moveStates_48 rfl rfl ?_
          refine j_iload (p2 := 51) dT_moveStates_49 rfl rfl ?_
          refine j_dald (p2 := 52) dT_moveStates_51 rfl ly_65 (by decide) (by omega) (by omega) ?_
          refine j_dmul (p2 := 53) dT_moveStates_52 rfl (by rw [eC, (hKi z g).1]; exact n1 z g) ?_
          refine j_callV (m' := mT_rounded) (As := [_]) (p2 := 56) dT_moveStates_53 rfl ml_T_74 ok_mT_rounded im_mT_rounded se_mT_rounded rfl rfl (Nat.le_of_ble_eq_true rfl) ly_56 rfl (Nat.le_of_ble_eq_true rfl) ⟨(Nat.le_of_ble_eq_true rfl), (Nat.le_of_ble_eq_true rfl)⟩ ?_
          refine cTt_rounded efl (by rw [eC, (hKi z g).1]; exact n1 z g) ?_
          refine j_dadd (p2 := 57) dT_moveStates_56 rfl (by rw [eC, (hKi z g).1, m1 z g, eA, (hbi z).1]; exact n2 z g) ?_
          refine j_callV (m' := mT_rounded) (As := [_]) (p2 := 60) dT_moveStates_57 rfl ml_T_74 ok_mT_rounded im_mT_rounded se_mT_rounded rfl rfl (Nat.le_of_ble_eq_true rfl) ly_56 rfl (Nat.le_of_ble_eq_true rfl) ⟨(Nat.le_of_ble_eq_true rfl), (Nat.le_of_ble_eq_true rfl)⟩ ?_
          refine cTt_rounded efl (by rw [eC, (hKi z g).1, m1 z g, eA, (hbi z).1]; exact n2 z g) ?_
          rw [eC, (hKi z g).1, m1 z g, eA, (hbi z).1, m2 z g]
          refine j_callV (m' := mT_after) (As := [_, _]) (p2 := 63) dT_moveStates_60 rfl ml_T_126 ok_mT_after im_mT_after se_mT_after rfl rfl (Nat.le_of_ble_eq_true rfl) ly_56 rfl (Nat.le_of_ble_eq_true rfl) ⟨(Nat.le_of_ble_eq_true rfl), (Nat.le_of_ble_eq_true rfl)⟩ ?_
          refine cTt_after (fn_nnD (hf z g).2) (Or.inl rfl) (by omega) (hlτ z) ?_
          refine j_dastk (p2 := 64) dT_moveStates_63 rfl ly_59 (by decide) (by omega) (by omega) ?_
          refine j_iinc (p2 := 67) (lv' := [(0, _), (1, _), (2, _), (4, _)]) dT_moveStates_64 rfl (Nat.le_of_ble_eq_true rfl) rfl ⟨rfl, rfl, rfl, rfl, trivial⟩ ?_
          refine j_goto (p2 := 3) dT_moveStates_67 (by decide) ?_
          refine J.loc (lv' := [(0, _), (1, _), (2, _), (4, _)]) ⟨rfl, rfl, rfl, rfl, trivial⟩ ?_
          exact yes z g _ rfl (gaft_bdt (fn_nnD (hf z g).2))
  have start := loop (N + 1) 0 (by omega) (by omega) (hD σ 59) (fun m x y => by rw [pw_0]; exact hst m x y)
  rw [pw_0, lms_0, wD_id, wI_id] at start
  refine j_iconst (p2 := 1) dT_moveStates_0 rfl ?_
  refine j_istore (p2 := 3) (lv' := [(0, _), (1, _), (2, _), (4, _)]) dT_moveStates_1 rfl (Nat.le_of_ble_eq_true rfl) ⟨rfl, rfl, rfl, rfl, trivial⟩ ?_
  refine J.loc (lv' := [(0, _), (1, _), (2, _), (4, _)]) ⟨rfl, rfl, rfl, rfl, trivial⟩ ?_
  exact start
theorem cTt_moveStates_k2 {fr : Int → Int} {st bf K : Int → UInt64} {h : UInt64} {len : UInt64} {N : Nat} (hc : CtI σ fr N) (hfl : hI σ 56 3 = 0) (hlen : len = cvD h) (hh : MhD h) (hst : ∀ m : Int, 0 ≤ m → m < N → hD σ 59 m = cvD (st m) ∧ BdD (st m)) (hbf : ∀ m : Int, 0 ≤ m → m < N → hD σ 63 m = cvD (bf m) ∧ BdD (bf m)) (hK : ∀ m : Int, 0 ≤ m → m < N → hI σ 4 m = 2 → hD σ 66 m = cvD (K m) ∧ MkD (K m)) (hl : (∀ m : Int, 0 ≤ m → m < N → inR (hI σ 55 m)) ∧ inR (hI σ 54 1))
    (hQ : ∀ a, (∀ m : Int, 0 ≤ m → m < N → a m = cvD (pw st (gmvS arD (hI σ 4) h bf K st) N m) ∧ BdD (pw st (gmvS arD (hI σ 4) h bf K st) N m)) → Q none (wI (wD σ 59 a) 55 (lms (hI σ 55) (hI σ 54 1) (pw (fun _ => false) (gmvB arD (hI σ 4) h bf K) N)))) : Sp mT_moveStates [vR 56, vR 66, vD len] σ Q := by
  have hN := hc.1
  have hN2 := hc.2.1
  have loop : ∀ (n i : Nat), i ≤ N → N + 1 ≤ i + n → ∀ a, (∀ m : Int, 0 ≤ m → m < N → a m = cvD (pw st (gmvS arD (hI σ 4) h bf K st) i m) ∧ BdD (pw st (gmvS arD (hI σ 4) h bf K st) i m)) → J mT_moveStates 3 [(0, vR 56), (1, vR 66), (2, vD len), (4, vI i)] [] (wI (wD σ 59 a) 55 (lms (hI σ 55) (hI σ 54 1) (pw (fun _ => false) (gmvB arD (hI σ 4) h bf K) i))) Q := by
    intro n
    induction n with
    | zero => intro i h1 h2; exact absurd h2 (by omega)
    | succ n ih =>
      intro i h1 h2 a ha
      have kb : i < N → 0 ≤ hI σ 4 i ∧ hI σ 4 i < 14 := fun h => hc.2.2.1 i (by omega) (by omega)
      have hbi : i < N → hD σ 63 i = cvD (bf i) ∧ BdD (bf i) := fun z => hbf i (by omega) (by omega)
      have hKi : i < N → hI σ 4 i = 2 → hD σ 66 i = cvD (K i) ∧ MkD (K i) := fun z => hK i (by omega) (by omega)
      have hli : i < N → inR (hI σ 55 i) := fun z => hl.1 i (by omega) (by omega)
      obtain ⟨τ, hτ⟩ : ∃ τ, τ = wI (wD σ 59 a) 55 (lms (hI σ 55) (hI σ 54 1) (pw (fun _ => false) (gmvB arD (hI σ 4) h bf K) i)) := ⟨_, rfl⟩
      have eN : hI τ 3 0 = N := by rw [hτ]; exact hN
      have eK : hI τ 4 = hI σ 4 := by rw [hτ]; rfl
      have eA : hD τ 63 = hD σ 63 := by rw [hτ]; rfl
      have eC : hD τ 66 = hD σ 66 := by rw [hτ]; rfl
      have eS : hD τ 59 = a := by rw [hτ]; rfl
      have efl : hI τ 56 3 = 0 := by rw [hτ]; exact hfl
      have elo : hI τ 54 1 = hI σ 54 1 := by rw [hτ]; rfl
      have elm : hI τ 55 = lms (hI σ 55) (hI σ 54 1) (pw (fun _ => false) (gmvB arD (hI σ 4) h bf K) i) := by rw [hτ]; rfl
      have hlτ : i < N → inR (hI τ 55 i) := fun z => by rw [elm]; exact lms_inR (hli z) hl.2
      have no : i < N → ¬ hI σ 4 i = 2 → J mT_moveStates 3 [(0, vR 56), (1, vR 66), (2, vD len), (4, vI (i + 1))] [] τ Q := fun z g => by
        have e1 := pw_k2 (f := st) (g := gmvS arD (hI σ 4) h bf K st) (i := i) (if_neg g)
        have e2 := pw_k2 (f := fun _ => false) (g := gmvB arD (hI σ 4) h bf K) (i := i) (by unfold gmvB; rw [decide_eq_false g]; rfl)
        have := ih (i + 1) (by omega) (by omega) a (fun m x y => by rw [e1]; exact ha m x y)
        rw [e2, ← hτ] at this
        exact this
      have yes : i < N → hI σ 4 i = 2 → ∀ y, y = gaft arD (Aadd arD (bf i) (Amul arD h (K i))) → BdD y.1 → J mT_moveStates 3 [(0, vR 56), (1, vR 66), (2, vD len), (4, vI (i + 1))] [] (wD (wI τ 55 (lmp (hI τ 55) i (hI τ 54 1) y.2)) 59 (fup (hD τ 59) i (cvD y.1))) Q := fun z g y hy by1 => by
        have e1 : gmvS arD (hI σ 4) h bf K st i = y.1 := by unfold gmvS; rw [if_pos g, hy]; rfl
        have e2 : gmvB arD (hI σ 4) h bf K i = y.2 := by unfold gmvB; rw [decide_eq_true g, Bool.true_and, hy]; rfl
        have := ih (i + 1) (by omega) (by omega) (fup a i (cvD y.1)) (fun m x y0 => by
          rw [← pw_s, e1]
          unfold fup
          by_cases hk : m = i
          · rw [if_pos hk, if_pos hk]; exact ⟨rfl, by1⟩
          · rw [if_neg hk, if_neg hk]; exact ha m x y0)
        rw [elm, elo, eS, hτ, stt_step, lmp_lms, pw_at, Bool.false_or, ← e2, pw_s]
        exact this
      clear ih
      rw [← hτ]
      have hf := fun z g => mvD hh (hbi z).2 (hKi z g).2
      have m1 := fun z g => hcD_mul (mh_fnD hh) (mk_fnD (hKi z g).2)
      have n1 : i < N → hI σ 4 i = 2 → vf_n64 (FP.dmul (cvD h) (cvD (K i))) := fun z g => nn_mul (cvD_fn (mh_fnD hh)) (cvD_fn (mk_fnD (hKi z g).2))
      have m2 := fun z g => hcD_add (hbi z).2.fn (hf z g).1
      have n2 : i < N → hI σ 4 i = 2 → vf_n64 (FP.dadd (cvD (bf i)) (cvD (Amul arD h (K i)))) := fun z g => nn_add2 (cvD_fn (hbi z).2.fn) (cvD_fn (hf z g).1)
      subst hlen
      refine j_iload (p2 := 5) dT_moveStates_3 rfl rfl ?_
      refine j_aload_n (p2 := 6) dT_moveStates_5 rfl rfl ?_
      refine j_getR (p2 := 9) dT_moveStates_6 rfl fa_T_49 ly_56 rfl ?_
      refine j_getIk (p2 := 12) dT_moveStates_9 rfl fa_T_65 ly_3 rfl (ki := 0) rfl ?_
      refine j_icmp_ge (p2 := 15) (tg := 70) dT_moveStates_12 rfl (by decide) (by constructor <;> omega) (by rw [eN]; constructor <;> omega) (fun h12 => ?_) (fun h12 => ?_)
      · refine j_return dT_moveStates_70 rfl (by rw [eN] at h12; have e : i = N := (by omega); subst e; rw [hτ]; exact hQ a ha)
      · refine j_aload_n (p2 := 16) dT_moveStates_15 rfl rfl ?_
        refine j_getR (p2 := 19) dT_moveStates_16 rfl fa_T_49 ly_56 rfl ?_
        refine j_getR (p2 := 22) dT_moveStates_19 rfl fa_T_119 ly_3 rfl ?_
        refine j_iload (p2 := 24) dT_moveStates_22 rfl rfl ?_
        refine j_iald (p2 := 25) dT_moveStates_24 rfl ly_4 (by decide) (by omega) (by rw [eN] at h12; omega) ?_
        refine j_iconst (p2 := 26) dT_moveStates_25 rfl ?_
        refine j_icmp_ne (p2 := 29) (tg := 64) dT_moveStates_26 rfl (by decide) (by rw [eN] at h12; rw [eK]; have := kb (by omega); constructor <;> omega) (by constructor <;> omega) (fun h26 => ?_) (fun h26 => ?_)
        · refine j_iinc (p2 := 67) (lv' := [(0, _), (1, _), (2, _), (4, _)]) dT_moveStates_64 rfl (Nat.le_of_ble_eq_true rfl) rfl ⟨rfl, rfl, rfl, rfl, trivial⟩ ?_
          refine j_goto (p2 := 3) dT_moveStates_67 (by decide) ?_
          refine J.loc (lv' := [(0, _), (1, _), (2, _), (4, _)]) ⟨rfl, rfl, rfl, rfl, trivial⟩ ?_
          have g : ¬ hI σ 4 i = 2 := by rw [← eK]; exact h26
          rw [eN] at h12
          exact no (by omega) g
        · refine J.loc (lv' := [(0, _), (1, _), (2, _), (4, _)]) ⟨rfl, rfl, rfl, rfl, trivial⟩ ?_
          rw [eN] at h12
          have g : hI σ 4 i = 2 := by rw [← eK]; exact h26
          have z : i < N := by omega
          refine j_aload_n (p2 := 30) dT_moveStates_29 rfl rfl ?_
          refine j_getR (p2 := 33) dT_moveStates_30 rfl fa_T_18 ly_56 rfl ?_
          refine j_iload (p2 := 35) dT_moveStates_33 rfl rfl ?_
          refine j_aload_n (p2 := 36) dT_moveStates_35 rfl rfl ?_
          refine j_iload (p2 := 38) dT_moveStates_36 rfl rfl ?_
          refine j_aload_n (p2 := 39) dT_moveStates_38 rfl rfl ?_
          refine j_aload_n (p2 := 40) dT_moveStates_39 rfl rfl ?_
          refine j_getR (p2 := 43) dT_moveStates_40 rfl fa_T_31 ly_56 rfl ?_
          refine j_iload (p2 := 45) dT_moveStates_43 rfl rfl ?_
          refine j_dald (p2 := 46) dT_moveStates_45 rfl ly_63 (by decide) (by omega) (by omega) ?_
          refine j_aload_n (p2 := 47) dT_moveStates_46 rfl rfl ?_
          refine j_dload_n (p2 := 48) dT_moveStates_47 rfl rfl ?_
          refine j_aload_n (p2 := 49) dT_moveStates_48 rfl rfl ?_
          refine j_iload (p2 := 51) dT_moveStates_49 rfl rfl ?_
          refine j_dald (p2 := 52) dT_moveStates_51 rfl ly_66 (by decide) (by omega) (by omega) ?_
          refine j_dmul (p2 := 53) dT_moveStates_52 rfl (by rw [eC, (hKi z g).1]; exact n1 z g) ?_
          refine j_callV (m' := mT_rounded) (As := [_]) (p2 := 56) dT_moveStates_53 rfl ml_T_74 ok_mT_rounded im_mT_rounded se_mT_rounded rfl rfl (Nat.le_of_ble_eq_true rfl) ly_56 rfl (Nat.le_of_ble_eq_true rfl) ⟨(Nat.le_of_ble_eq_true rfl), (Nat.le_of_ble_eq_true rfl)⟩ ?_
          refine cTt_rounded efl (by rw [eC, (hKi z g).1]; exact n1 z g) ?_
          refine j_dadd (p2 := 57) dT_moveStates_56 rfl (by rw [eC, (hKi z g).1, m1 z g, eA, (hbi z).1]; exact n2 z g) ?_
          refine j_callV (m' := mT_rounded) (As := [_]) (p2 := 60) dT_moveStates_57 rfl ml_T_74 ok_mT_rounded im_mT_rounded se_mT_rounded rfl rfl (Nat.le_of_ble_eq_true rfl) ly_56 rfl (Nat.le_of_ble_eq_true rfl) ⟨(Nat.le_of_ble_eq_true rfl), (Nat.le_of_ble_eq_true rfl)⟩ ?_
          refine cTt_rounded efl (by rw [eC, (hKi z g).1, m1 z g, eA, (hbi z).1]; exact n2 z g) ?_
          rw [eC, (hKi z g).1, m1 z g, eA, (hbi z).1, m2 z g]
          refine j_callV (m' := mT_after) (As := [_, _]) (p2 := 63) dT_moveStates_60 rfl ml_T_126 ok_mT_after im_mT_after se_mT_after rfl rfl (Nat.le_of_ble_eq_true rfl) ly_56 rfl (Nat.le_of_ble_eq_true rfl) ⟨(Nat.le_of_ble_eq_true rfl), (Nat.le_of_ble_eq_true rfl)⟩ ?_
          refine cTt_after (fn_nnD (hf z g).2) (Or.inl rfl) (by omega) (hlτ z) ?_
          refine j_dastk (p2 := 64) dT_moveStates_63 rfl ly_59 (by decide) (by omega) (by omega) ?_
          refine j_iinc (p2 := 67) (lv' := [(0, _), (1, _), (2, _), (4, _)]) dT_moveStates_64 rfl (Nat.le_of_ble_eq_true rfl) rfl ⟨rfl, rfl, rfl, rfl, trivial⟩ ?_
          refine j_goto (p2 := 3) dT_moveStates_67 (by decide) ?_
          refine J.loc (lv' := [(0, _), (1, _), (2, _), (4, _)]) ⟨rfl, rfl, rfl, rfl, trivial⟩ ?_
          exact yes z g _ rfl (gaft_bdt (fn_nnD (hf z g).2))
  have start := loop (N + 1) 0 (by omega) (by omega) (hD σ 59) (fun m x y => by rw [pw_0]; exact hst m x y)
  rw [pw_0, lms_0, wD_id, wI_id] at start
  refine j_iconst (p2 := 1) dT_moveStates_0 rfl ?_
  refine j_istore (p2 := 3) (lv' := [(0, _), (1, _), (2, _), (4, _)]) dT_moveStates_1 rfl (Nat.le_of_ble_eq_true rfl) ⟨rfl, rfl, rfl, rfl, trivial⟩ ?_
  refine J.loc (lv' := [(0, _), (1, _), (2, _), (4, _)]) ⟨rfl, rfl, rfl, rfl, trivial⟩ ?_
  exact start
theorem cTt_moveStates_k3 {fr : Int → Int} {st bf K : Int → UInt64} {h : UInt64} {len : UInt64} {N : Nat} (hc : CtI σ fr N) (hfl : hI σ 56 3 = 0) (hlen : len = cvD h) (hh : MhD h) (hst : ∀ m : Int, 0 ≤ m → m < N → hD σ 59 m = cvD (st m) ∧ BdD (st m)) (hbf : ∀ m : Int, 0 ≤ m → m < N → hD σ 63 m = cvD (bf m) ∧ BdD (bf m)) (hK : ∀ m : Int, 0 ≤ m → m < N → hI σ 4 m = 2 → hD σ 67 m = cvD (K m) ∧ MkD (K m)) (hl : (∀ m : Int, 0 ≤ m → m < N → inR (hI σ 55 m)) ∧ inR (hI σ 54 1))
    (hQ : ∀ a, (∀ m : Int, 0 ≤ m → m < N → a m = cvD (pw st (gmvS arD (hI σ 4) h bf K st) N m) ∧ BdD (pw st (gmvS arD (hI σ 4) h bf K st) N m)) → Q none (wI (wD σ 59 a) 55 (lms (hI σ 55) (hI σ 54 1) (pw (fun _ => false) (gmvB arD (hI σ 4) h bf K) N)))) : Sp mT_moveStates [vR 56, vR 67, vD len] σ Q := by
  have hN := hc.1
  have hN2 := hc.2.1
  have loop : ∀ (n i : Nat), i ≤ N → N + 1 ≤ i + n → ∀ a, (∀ m : Int, 0 ≤ m → m < N → a m = cvD (pw st (gmvS arD (hI σ 4) h bf K st) i m) ∧ BdD (pw st (gmvS arD (hI σ 4) h bf K st) i m)) → J mT_moveStates 3 [(0, vR 56), (1, vR 67), (2, vD len), (4, vI i)] [] (wI (wD σ 59 a) 55 (lms (hI σ 55) (hI σ 54 1) (pw (fun _ => false) (gmvB arD (hI σ 4) h bf K) i))) Q := by
    intro n
    induction n with
    | zero => intro i h1 h2; exact absurd h2 (by omega)
    | succ n ih =>
      intro i h1 h2 a ha
      have kb : i < N → 0 ≤ hI σ 4 i ∧ hI σ 4 i < 14 := fun h => hc.2.2.1 i (by omega) (by omega)
      have hbi : i < N → hD σ 63 i = cvD (bf i) ∧ BdD (bf i) := fun z => hbf i (by omega) (by omega)
      have hKi : i < N → hI σ 4 i = 2 → hD σ 67 i = cvD (K i) ∧ MkD (K i) := fun z => hK i (by omega) (by omega)
      have hli : i < N → inR (hI σ 55 i) := fun z => hl.1 i (by omega) (by omega)
      obtain ⟨τ, hτ⟩ : ∃ τ, τ = wI (wD σ 59 a) 55 (lms (hI σ 55) (hI σ 54 1) (pw (fun _ => false) (gmvB arD (hI σ 4) h bf K) i)) := ⟨_, rfl⟩
      have eN : hI τ 3 0 = N := by rw [hτ]; exact hN
      have eK : hI τ 4 = hI σ 4 := by rw [hτ]; rfl
      have eA : hD τ 63 = hD σ 63 := by rw [hτ]; rfl
      have eC : hD τ 67 = hD σ 67 := by rw [hτ]; rfl
      have eS : hD τ 59 = a := by rw [hτ]; rfl
      have efl : hI τ 56 3 = 0 := by rw [hτ]; exact hfl
      have elo : hI τ 54 1 = hI σ 54 1 := by rw [hτ]; rfl
      have elm : hI τ 55 = lms (hI σ 55) (hI σ 54 1) (pw (fun _ => false) (gmvB arD (hI σ 4) h bf K) i) := by rw [hτ]; rfl
      have hlτ : i < N → inR (hI τ 55 i) := fun z => by rw [elm]; exact lms_inR (hli z) hl.2
      have no : i < N → ¬ hI σ 4 i = 2 → J mT_moveStates 3 [(0, vR 56), (1, vR 67), (2, vD len), (4, vI (i + 1))] [] τ Q := fun z g => by
        have e1 := pw_k2 (f := st) (g := gmvS arD (hI σ 4) h bf K st) (i := i) (if_neg g)
        have e2 := pw_k2 (f := fun _ => false) (g := gmvB arD (hI σ 4) h bf K) (i := i) (by unfold gmvB; rw [decide_eq_false g]; rfl)
        have := ih (i + 1) (by omega) (by omega) a (fun m x y => by rw [e1]; exact ha m x y)
        rw [e2, ← hτ] at this
        exact this
      have yes : i < N → hI σ 4 i = 2 → ∀ y, y = gaft arD (Aadd arD (bf i) (Amul arD h (K i))) → BdD y.1 → J mT_moveStates 3 [(0, vR 56), (1, vR 67), (2, vD len), (4, vI (i + 1))] [] (wD (wI τ 55 (lmp (hI τ 55) i (hI τ 54 1) y.2)) 59 (fup (hD τ 59) i (cvD y.1))) Q := fun z g y hy by1 => by
        have e1 : gmvS arD (hI σ 4) h bf K st i = y.1 := by unfold gmvS; rw [if_pos g, hy]; rfl
        have e2 : gmvB arD (hI σ 4) h bf K i = y.2 := by unfold gmvB; rw [decide_eq_true g, Bool.true_and, hy]; rfl
        have := ih (i + 1) (by omega) (by omega) (fup a i (cvD y.1)) (fun m x y0 => by
          rw [← pw_s, e1]
          unfold fup
          by_cases hk : m = i
          · rw [if_pos hk, if_pos hk]; exact ⟨rfl, by1⟩
          · rw [if_neg hk, if_neg hk]; exact ha m x y0)
        rw [elm, elo, eS, hτ, stt_step, lmp_lms, pw_at, Bool.false_or, ← e2, pw_s]
        exact this
      clear ih
      rw [← hτ]
      have hf := fun z g => mvD hh (hbi z).2 (hKi z g).2
      have m1 := fun z g => hcD_mul (mh_fnD hh) (mk_fnD (hKi z g).2)
      have n1 : i < N → hI σ 4 i = 2 → vf_n64 (FP.dmul (cvD h) (cvD (K i))) := fun z g => nn_mul (cvD_fn (mh_fnD hh)) (cvD_fn (mk_fnD (hKi z g).2))
      have m2 := fun z g => hcD_add (hbi z).2.fn (hf z g).1
      have n2 : i < N → hI σ 4 i = 2 → vf_n64 (FP.dadd (cvD (bf i)) (cvD (Amul arD h (K i)))) := fun z g => nn_add2 (cvD_fn (hbi z).2.fn) (cvD_fn (hf z g).1)
      subst hlen
      refine j_iload (p2 := 5) dT_moveStates_3 rfl rfl ?_
      refine j_aload_n (p2 := 6) dT_moveStates_5 rfl rfl ?_
      refine j_getR (p2 := 9) dT_moveStates_6 rfl fa_T_49 ly_56 rfl ?_
      refine j_getIk (p2 := 12) dT_moveStates_9 rfl fa_T_65 ly_3 rfl (ki := 0) rfl ?_
      refine j_icmp_ge (p2 := 15) (tg := 70) dT_moveStates_12 rfl (by decide) (by constructor <;> omega) (by rw [eN]; constructor <;> omega) (fun h12 => ?_) (fun h12 => ?_)
      · refine j_return dT_moveStates_70 rfl (by rw [eN] at h12; have e : i = N := (by omega); subst e; rw [hτ]; exact hQ a ha)
      · refine j_aload_n (p2 := 16) dT_moveStates_15 rfl rfl ?_
        refine j_getR (p2 := 19) dT_moveStates_16 rfl fa_T_49 ly_56 rfl ?_
        refine j_getR (p2 := 22) dT_moveStates_19 rfl fa_T_119 ly_3 rfl ?_
        refine j_iload (p2 := 24) dT_moveStates_22 rfl rfl ?_
        refine j_iald (p2 := 25) dT_moveStates_24 rfl ly_4 (by decide) (by omega) (by rw [eN] at h12; omega) ?_
        refine j_iconst (p2 := 26) dT_moveStates_25 rfl ?_
        refine j_icmp_ne (p2 := 29) (tg := 64) dT_moveStates_26 rfl (by decide) (by rw [eN] at h12; rw [eK]; have := kb (by omega); constructor <;> omega) (by constructor <;> omega) (fun h26 => ?_) (fun h26 => ?_)
        · refine j_iinc (p2 := 67) (lv' := [(0, _), (1, _), (2, _), (4, _)]) dT_moveStates_64 rfl (Nat.le_of_ble_eq_true rfl) rfl ⟨rfl, rfl, rfl, rfl, trivial⟩ ?_
          refine j_goto (p2 := 3) dT_moveStates_67 (by decide) ?_
          refine J.loc (lv' := [(0, _), (1, _), (2, _), (4, _)]) ⟨rfl, rfl, rfl, rfl, trivial⟩ ?_
          have g : ¬ hI σ 4 i = 2 := by rw [← eK]; exact h26
          rw [eN] at h12
          exact no (by omega) g
        · refine J.loc (lv' := [(0, _), (1, _), (2, _), (4, _)]) ⟨rfl, rfl, rfl, rfl, trivial⟩ ?_
          rw [eN] at h12
          have g : hI σ 4 i = 2 := by rw [← eK]; exact h26
          have z : i < N := by omega
          refine j_aload_n (p2 := 30) dT_moveStates_29 rfl rfl ?_
          refine j_getR (p2 := 33) dT_moveStates_30 rfl fa_T_18 ly_56 rfl ?_
          refine j_iload (p2 := 35) dT_moveStates_33 rfl rfl ?_
          refine j_aload_n (p2 := 36) dT_moveStates_35 rfl rfl ?_
          refine j_iload (p2 := 38) dT_moveStates_36 rfl rfl ?_
          refine j_aload_n (p2 := 39) dT_moveStates_38 rfl rfl ?_
          refine j_aload_n (p2 := 40) dT_moveStates_39 rfl rfl ?_
          refine j_getR (p2 := 43) dT_moveStates_40 rfl fa_T_31 ly_56 rfl ?_
          refine j_iload (p2 := 45) dT_moveStates_43 rfl rfl ?_
          refine j_dald (p2 := 46) dT_moveStates_45 rfl ly_63 (by decide) (by omega) (by omega) ?_
          refine j_aload_n (p2 := 47) dT_moveStates_46 rfl rfl ?_
          refine j_dload_n (p2 := 48) dT_moveStates_47 rfl rfl ?_
          refine j_aload_n (p2 := 49) dT_moveStates_48 rfl rfl ?_
          refine j_iload (p2 := 51) dT_moveStates_49 rfl rfl ?_
          refine j_dald (p2 := 52) dT_moveStates_51 rfl ly_67 (by decide) (by omega) (by omega) ?_
          refine j_dmul (p2 := 53) dT_moveStates_52 rfl (by rw [eC, (hKi z g).1]; exact n1 z g) ?_
          refine j_callV (m' := mT_rounded) (As := [_]) (p2 := 56) dT_moveStates_53 rfl ml_T_74 ok_mT_rounded im_mT_rounded se_mT_rounded rfl rfl (Nat.le_of_ble_eq_true rfl) ly_56 rfl (Nat.le_of_ble_eq_true rfl) ⟨(Nat.le_of_ble_eq_true rfl), (Nat.le_of_ble_eq_true rfl)⟩ ?_
          refine cTt_rounded efl (by rw [eC, (hKi z g).1]; exact n1 z g) ?_
          refine j_dadd (p2 := 57) dT_moveStates_56 rfl (by rw [eC, (hKi z g).1, m1 z g, eA, (hbi z).1]; exact n2 z g) ?_
          refine j_callV (m' := mT_rounded) (As := [_]) (p2 := 60) dT_moveStates_57 rfl ml_T_74 ok_mT_rounded im_mT_rounded se_mT_rounded rfl rfl (Nat.le_of_ble_eq_true rfl) ly_56 rfl (Nat.le_of_ble_eq_true rfl) ⟨(Nat.le_of_ble_eq_true rfl), (Nat.le_of_ble_eq_true rfl)⟩ ?_
          refine cTt_rounded efl (by rw [eC, (hKi z g).1, m1 z g, eA, (hbi z).1]; exact n2 z g) ?_
          rw [eC, (hKi z g).1, m1 z g, eA, (hbi z).1, m2 z g]
          refine j_callV (m' := mT_after) (As := [_, _]) (p2 := 63) dT_moveStates_60 rfl ml_T_126 ok_mT_after im_mT_after se_mT_after rfl rfl (Nat.le_of_ble_eq_true rfl) ly_56 rfl (Nat.le_of_ble_eq_true rfl) ⟨(Nat.le_of_ble_eq_true rfl), (Nat.le_of_ble_eq_true rfl)⟩ ?_
          refine cTt_after (fn_nnD (hf z g).2) (Or.inl rfl) (by omega) (hlτ z) ?_
          refine j_dastk (p2 := 64) dT_moveStates_63 rfl ly_59 (by decide) (by omega) (by omega) ?_
          refine j_iinc (p2 := 67) (lv' := [(0, _), (1, _), (2, _), (4, _)]) dT_moveStates_64 rfl (Nat.le_of_ble_eq_true rfl) rfl ⟨rfl, rfl, rfl, rfl, trivial⟩ ?_
          refine j_goto (p2 := 3) dT_moveStates_67 (by decide) ?_
          refine J.loc (lv' := [(0, _), (1, _), (2, _), (4, _)]) ⟨rfl, rfl, rfl, rfl, trivial⟩ ?_
          exact yes z g _ rfl (gaft_bdt (fn_nnD (hf z g).2))
  have start := loop (N + 1) 0 (by omega) (by omega) (hD σ 59) (fun m x y => by rw [pw_0]; exact hst m x y)
  rw [pw_0, lms_0, wD_id, wI_id] at start
  refine j_iconst (p2 := 1) dT_moveStates_0 rfl ?_
  refine j_istore (p2 := 3) (lv' := [(0, _), (1, _), (2, _), (4, _)]) dT_moveStates_1 rfl (Nat.le_of_ble_eq_true rfl) ⟨rfl, rfl, rfl, rfl, trivial⟩ ?_
  refine J.loc (lv' := [(0, _), (1, _), (2, _), (4, _)]) ⟨rfl, rfl, rfl, rfl, trivial⟩ ?_
  exact start
theorem cTd_addSecondToFirst {fr : Int → Int} {K1 K2 : Int → UInt64} {N : Nat} (hc : CtI σ fr N) (hfl : hI σ 21 3 = 0) (h1 : ∀ m : Int, 0 ≤ m → m < N → hI σ 4 m = 2 → hD σ 30 m = cvD (K1 m) ∧ MrD (K1 m)) (h2 : ∀ m : Int, 0 ≤ m → m < N → hI σ 4 m = 2 → hD σ 31 m = cvD (K2 m) ∧ MrD (K2 m))
    (hQ : ∀ a, (∀ m : Int, 0 ≤ m → m < N → hI σ 4 m = 2 → a m = cvD (Aadd arD (K1 m) (K2 m))) → Q none (wD σ 30 a)) : Sp mT_addSecondToFirst [vR 21] σ Q := by
  have hN := hc.1
  have hN2 := hc.2.1
  have loop : ∀ (n i : Nat), i ≤ N → N + 1 ≤ i + n → ∀ a, (∀ m : Int, 0 ≤ m → m < i → hI σ 4 m = 2 → a m = cvD (Aadd arD (K1 m) (K2 m))) → (∀ m : Int, i ≤ m → m < N → a m = hD σ 30 m) → J mT_addSecondToFirst 2 [(0, vR 21), (1, vI i)] [] (wD σ 30 a) Q := by
    intro n
    induction n with
    | zero => intro i h1 h2; exact absurd h2 (by omega)
    | succ n ih =>
      intro i i1 i2 a ha hb
      obtain ⟨τ, hτ⟩ : ∃ τ, τ = wD σ 30 a := ⟨_, rfl⟩
      have eN : hI τ 3 0 = N := by rw [hτ]; exact hN
      have eK : hI τ 4 = hI σ 4 := by rw [hτ]; rfl
      have e1 : hD τ 30 = a := by rw [hτ]; rfl
      have e2 : hD τ 31 = hD σ 31 := by rw [hτ]; rfl
      have efl : hI τ 21 3 = 0 := by rw [hτ]; exact hfl
      have kb : i < N → 0 ≤ hI σ 4 i ∧ hI σ 4 i < 14 := fun h => hc.2.2.1 i (by omega) (by omega)
      have v1 : i < N → hI σ 4 i = 2 → hD τ 30 i = cvD (K1 i) ∧ MrD (K1 i) := fun z g => by rw [e1, hb i (by omega) (by omega)]; exact h1 i (by omega) (by omega) g
      have v2 : i < N → hI σ 4 i = 2 → hD τ 31 i = cvD (K2 i) ∧ MrD (K2 i) := fun z g => by rw [e2]; exact h2 i (by omega) (by omega) g
      have no : i < N → ¬ hI σ 4 i = 2 → J mT_addSecondToFirst 2 [(0, vR 21), (1, vI (i + 1))] [] τ Q := fun z g => by
        rw [hτ]
        exact ih (i + 1) (by omega) (by omega) a (fun m x y w => by
          by_cases e : m = i
          · subst e; exact absurd w g
          · exact ha m x (by omega) w) (fun m x y => hb m (by omega) y)
      have yes : i < N → J mT_addSecondToFirst 2 [(0, vR 21), (1, vI (i + 1))] [] (wD τ 30 (fup (hD τ 30) i (cvD (Aadd arD (K1 i) (K2 i))))) Q := fun z => by
        rw [e1, hτ, wD_wD]
        refine ih (i + 1) (by omega) (by omega) _ (fun m x y w => ?_) (fun m x y => ?_)
        · by_cases e : m = i
          · subst e; rw [fup_s]
          · rw [fup_n e]; exact ha m x (by omega) w
        · rw [fup_n (by omega)]; exact hb m (by omega) y
      clear ih
      rw [← hτ]
      have mm := fun z g => hcD_add (mr_fnD (v1 z g).2) (mr_fnD (v2 z g).2)
      have nn : i < N → hI σ 4 i = 2 → vf_n64 (FP.dadd (cvD (K1 i)) (cvD (K2 i))) := fun z g => nn_add2 (cvD_fn (mr_fnD (v1 z g).2)) (cvD_fn (mr_fnD (v2 z g).2))
      refine j_iload_n (p2 := 3) dT_addSecondToFirst_2 rfl rfl ?_
      refine j_aload_n (p2 := 4) dT_addSecondToFirst_3 rfl rfl ?_
      refine j_getR (p2 := 7) dT_addSecondToFirst_4 rfl fa_T_49 ly_21 rfl ?_
      refine j_getIk (p2 := 10) dT_addSecondToFirst_7 rfl fa_T_65 ly_3 rfl (ki := 0) rfl ?_
      refine j_icmp_ge (p2 := 13) (tg := 55) dT_addSecondToFirst_10 rfl (by decide) (by constructor <;> omega) (by rw [eN]; constructor <;> omega) (fun h10 => ?_) (fun h10 => ?_)
      · refine j_return dT_addSecondToFirst_55 rfl (by rw [eN] at h10; have e : i = N := (by omega); subst e; rw [hτ]; exact hQ a ha)
      · refine j_aload_n (p2 := 14) dT_addSecondToFirst_13 rfl rfl ?_
        refine j_getR (p2 := 17) dT_addSecondToFirst_14 rfl fa_T_49 ly_21 rfl ?_
        refine j_getR (p2 := 20) dT_addSecondToFirst_17 rfl fa_T_119 ly_3 rfl ?_
        refine j_iload_n (p2 := 21) dT_addSecondToFirst_20 rfl rfl ?_
        refine j_iald (p2 := 22) dT_addSecondToFirst_21 rfl ly_4 (by decide) (by omega) (by rw [eN] at h10; omega) ?_
        refine j_iconst (p2 := 23) dT_addSecondToFirst_22 rfl ?_
        refine j_icmp_ne (p2 := 26) (tg := 49) dT_addSecondToFirst_23 rfl (by decide) (by rw [eN] at h10; rw [eK]; have := kb (by omega); constructor <;> omega) (by constructor <;> omega) (fun h23 => ?_) (fun h23 => ?_)
        · refine j_iinc (p2 := 52) (lv' := [(0, _), (1, _)]) dT_addSecondToFirst_49 rfl (Nat.le_of_ble_eq_true rfl) rfl ⟨rfl, rfl, trivial⟩ ?_
          refine j_goto (p2 := 2) dT_addSecondToFirst_52 (by decide) ?_
          refine J.loc (lv' := [(0, _), (1, _)]) ⟨rfl, rfl, trivial⟩ ?_
          have g : ¬ hI σ 4 i = 2 := by rw [← eK]; exact h23
          rw [eN] at h10
          exact no (by omega) g
        · refine J.loc (lv' := [(0, _), (1, _)]) ⟨rfl, rfl, trivial⟩ ?_
          rw [eN] at h10
          have g : hI σ 4 i = 2 := by rw [← eK]; exact h23
          have z : i < N := by omega
          refine j_aload_n (p2 := 27) dT_addSecondToFirst_26 rfl rfl ?_
          refine j_getR (p2 := 30) dT_addSecondToFirst_27 rfl fa_T_37 ly_21 rfl ?_
          refine j_iload_n (p2 := 31) dT_addSecondToFirst_30 rfl rfl ?_
          refine j_aload_n (p2 := 32) dT_addSecondToFirst_31 rfl rfl ?_
          refine j_aload_n (p2 := 33) dT_addSecondToFirst_32 rfl rfl ?_
          refine j_getR (p2 := 36) dT_addSecondToFirst_33 rfl fa_T_37 ly_21 rfl ?_
          refine j_iload_n (p2 := 37) dT_addSecondToFirst_36 rfl rfl ?_
          refine j_dald (p2 := 38) dT_addSecondToFirst_37 rfl ly_30 (by decide) (by omega) (by omega) ?_
          refine j_aload_n (p2 := 39) dT_addSecondToFirst_38 rfl rfl ?_
          refine j_getR (p2 := 42) dT_addSecondToFirst_39 rfl fa_T_40 ly_21 rfl ?_
          refine j_iload_n (p2 := 43) dT_addSecondToFirst_42 rfl rfl ?_
          refine j_dald (p2 := 44) dT_addSecondToFirst_43 rfl ly_31 (by decide) (by omega) (by omega) ?_
          refine j_dadd (p2 := 45) dT_addSecondToFirst_44 rfl (by rw [(v1 z g).1, (v2 z g).1]; exact nn z g) ?_
          refine j_callV (m' := mT_rounded) (As := [_]) (p2 := 48) dT_addSecondToFirst_45 rfl ml_T_74 ok_mT_rounded im_mT_rounded se_mT_rounded rfl rfl (Nat.le_of_ble_eq_true rfl) ly_21 rfl (Nat.le_of_ble_eq_true rfl) ⟨(Nat.le_of_ble_eq_true rfl), (Nat.le_of_ble_eq_true rfl)⟩ ?_
          refine cTd_rounded efl (by rw [(v1 z g).1, (v2 z g).1]; exact nn z g) ?_
          rw [(v1 z g).1, (v2 z g).1, mm z g]
          refine j_dastk (p2 := 49) dT_addSecondToFirst_48 rfl ly_30 (by decide) (by omega) (by omega) ?_
          refine j_iinc (p2 := 52) (lv' := [(0, _), (1, _)]) dT_addSecondToFirst_49 rfl (Nat.le_of_ble_eq_true rfl) rfl ⟨rfl, rfl, trivial⟩ ?_
          refine j_goto (p2 := 2) dT_addSecondToFirst_52 (by decide) ?_
          refine J.loc (lv' := [(0, _), (1, _)]) ⟨rfl, rfl, trivial⟩ ?_
          exact yes z
  have start := loop (N + 1) 0 (by omega) (by omega) (hD σ 30) (fun m x y => absurd y (by omega)) (fun m x y => rfl)
  rw [wD_id] at start
  refine j_iconst (p2 := 1) dT_addSecondToFirst_0 rfl ?_
  refine j_istore_n (p2 := 2) (lv' := [(0, _), (1, _)]) dT_addSecondToFirst_1 rfl (Nat.le_of_ble_eq_true rfl) ⟨rfl, rfl, trivial⟩ ?_
  refine J.loc (lv' := [(0, _), (1, _)]) ⟨rfl, rfl, trivial⟩ ?_
  exact start
theorem cTd_weighIntoFirst {fr : Int → Int} {K1 K2 K3 K4 : Int → UInt64} {N : Nat} (hc : CtI σ fr N) (hfl : hI σ 21 3 = 0) (h1 : ∀ m : Int, 0 ≤ m → m < N → hI σ 4 m = 2 → hD σ 30 m = cvD (K1 m) ∧ MrD (K1 m)) (h2 : ∀ m : Int, 0 ≤ m → m < N → hI σ 4 m = 2 → hD σ 31 m = cvD (K2 m) ∧ MrD (K2 m)) (h3 : ∀ m : Int, 0 ≤ m → m < N → hI σ 4 m = 2 → hD σ 32 m = cvD (K3 m) ∧ MrD (K3 m)) (h4 : ∀ m : Int, 0 ≤ m → m < N → hI σ 4 m = 2 → hD σ 33 m = cvD (K4 m) ∧ MrD (K4 m))
    (hQ : ∀ a, (∀ m : Int, 0 ≤ m → m < N → hI σ 4 m = 2 → a m = cvD (gwg arD (K1 m) (K2 m) (K3 m) (K4 m))) → Q none (wD σ 30 a)) : Sp mT_weighIntoFirst [vR 21] σ Q := by
  have hN := hc.1
  have hN2 := hc.2.1
  have loop : ∀ (n i : Nat), i ≤ N → N + 1 ≤ i + n → ∀ a, (∀ m : Int, 0 ≤ m → m < i → hI σ 4 m = 2 → a m = cvD (gwg arD (K1 m) (K2 m) (K3 m) (K4 m))) → (∀ m : Int, i ≤ m → m < N → a m = hD σ 30 m) → J mT_weighIntoFirst 2 [(0, vR 21), (1, vI i)] [] (wD σ 30 a) Q := by
    intro n
    induction n with
    | zero => intro i h1 h2; exact absurd h2 (by omega)
    | succ n ih =>
      intro i i1 i2 a ha hb
      obtain ⟨τ, hτ⟩ : ∃ τ, τ = wD σ 30 a := ⟨_, rfl⟩
      have eN : hI τ 3 0 = N := by rw [hτ]; exact hN
      have eK : hI τ 4 = hI σ 4 := by rw [hτ]; rfl
      have e1 : hD τ 30 = a := by rw [hτ]; rfl
      have efl : hI τ 21 3 = 0 := by rw [hτ]; exact hfl
      have kb : i < N → 0 ≤ hI σ 4 i ∧ hI σ 4 i < 14 := fun h => hc.2.2.1 i (by omega) (by omega)
      have v1 : i < N → hI σ 4 i = 2 → hD τ 30 i = cvD (K1 i) ∧ MrD (K1 i) := fun z g => by rw [e1, hb i (by omega) (by omega)]; exact h1 i (by omega) (by omega) g
      have v2 : i < N → hI σ 4 i = 2 → hD τ 31 i = cvD (K2 i) ∧ MrD (K2 i) := fun z g => by rw [hτ]; exact h2 i (by omega) (by omega) g
      have v3 : i < N → hI σ 4 i = 2 → hD τ 32 i = cvD (K3 i) ∧ MrD (K3 i) := fun z g => by rw [hτ]; exact h3 i (by omega) (by omega) g
      have v4 : i < N → hI σ 4 i = 2 → hD τ 33 i = cvD (K4 i) ∧ MrD (K4 i) := fun z g => by rw [hτ]; exact h4 i (by omega) (by omega) g
      have no : i < N → ¬ hI σ 4 i = 2 → J mT_weighIntoFirst 2 [(0, vR 21), (1, vI (i + 1))] [] τ Q := fun z g => by
        rw [hτ]
        exact ih (i + 1) (by omega) (by omega) a (fun m x y w => by
          by_cases e : m = i
          · subst e; exact absurd w g
          · exact ha m x (by omega) w) (fun m x y => hb m (by omega) y)
      have yes : i < N → J mT_weighIntoFirst 2 [(0, vR 21), (1, vI (i + 1))] [] (wD τ 30 (fup (hD τ 30) i (cvD (gwg arD (K1 i) (K2 i) (K3 i) (K4 i))))) Q := fun z => by
        rw [e1, hτ, wD_wD]
        refine ih (i + 1) (by omega) (by omega) _ (fun m x y w => ?_) (fun m x y => ?_)
        · by_cases e : m = i
          · subst e; rw [fup_s]
          · rw [fup_n e]; exact ha m x (by omega) w
        · rw [fup_n (by omega)]; exact hb m (by omega) y
      clear ih
      rw [← hτ]
      have step : i < N → hI σ 4 i = 2 → J mT_weighIntoFirst 26 [(0, vR 21), (1, vI i)] [] τ Q := by
        intro z g
        obtain ⟨a1, b1⟩ := v1 z g
        obtain ⟨a2, b2⟩ := v2 z g
        obtain ⟨a3, b3⟩ := v3 z g
        obtain ⟨a4, b4⟩ := v4 z g
        obtain ⟨f1, f2, f3, f4, f5, f6⟩ := wgD b1 b2 b3 b4
        have c5 : (4611686018427387904 : UInt64) = cvD (Ac arD 5) := (hcD_c 5 (by decide)).symm
        have c6 : (4618441417868443648 : UInt64) = cvD (Ac arD 6) := (hcD_c 6 (by decide)).symm
        have x1 := hcD_mul (hcD_cf 5 (by decide)) (mr_fnD b2)
        have n1 := nn_mul (cvD_fn (hcD_cf 5 (by decide))) (cvD_fn (mr_fnD b2))
        have x2 := hcD_add (mr_fnD b1) f1
        have n2 := nn_add2 (cvD_fn (mr_fnD b1)) (cvD_fn f1)
        have x3 := hcD_mul (hcD_cf 5 (by decide)) (mr_fnD b3)
        have n3 := nn_mul (cvD_fn (hcD_cf 5 (by decide))) (cvD_fn (mr_fnD b3))
        have x4 := hcD_add f2 f3
        have n4 := nn_add2 (cvD_fn f2) (cvD_fn f3)
        have x5 := hcD_add f4 (mr_fnD b4)
        have n5 := nn_add2 (cvD_fn f4) (cvD_fn (mr_fnD b4))
        have x6 := hcD_div f5 (hcD_cf 6 (by decide)) nz6cD
        have n6 := nn_div2 (cvD_nn (fn_nnD f5)) (cvD_fn (hcD_cf 6 (by decide))) (by rw [cmp0D (nn_cD 6 (by decide))]; exact nz6cD)
        have hy := yes z
        unfold gwg at hy
        refine j_aload_n (p2 := 27) dT_weighIntoFirst_26 rfl rfl ?_
        refine j_aload_n (p2 := 28) dT_weighIntoFirst_27 rfl rfl ?_
        refine j_getR (p2 := 31) dT_weighIntoFirst_28 rfl fa_T_37 ly_21 rfl ?_
        refine j_iload_n (p2 := 32) dT_weighIntoFirst_31 rfl rfl ?_
        refine j_dald (p2 := 33) dT_weighIntoFirst_32 rfl ly_30 (by decide) (by omega) (by omega) ?_
        refine j_aload_n (p2 := 34) dT_weighIntoFirst_33 rfl rfl ?_
        refine j_ldc2d (p2 := 37) dT_weighIntoFirst_34 rfl cw_T_130 ?_
        refine j_aload_n (p2 := 38) dT_weighIntoFirst_37 rfl rfl ?_
        refine j_getR (p2 := 41) dT_weighIntoFirst_38 rfl fa_T_40 ly_21 rfl ?_
        refine j_iload_n (p2 := 42) dT_weighIntoFirst_41 rfl rfl ?_
        refine j_dald (p2 := 43) dT_weighIntoFirst_42 rfl ly_31 (by decide) (by omega) (by omega) ?_
        refine j_dmul (p2 := 44) dT_weighIntoFirst_43 rfl (by rw [a2, c5]; exact n1) ?_
        refine j_callV (m' := mT_rounded) (As := [_]) (p2 := 47) dT_weighIntoFirst_44 rfl ml_T_74 ok_mT_rounded im_mT_rounded se_mT_rounded rfl rfl (Nat.le_of_ble_eq_true rfl) ly_21 rfl (Nat.le_of_ble_eq_true rfl) ⟨(Nat.le_of_ble_eq_true rfl), (Nat.le_of_ble_eq_true rfl)⟩ ?_
        refine cTd_rounded efl (by rw [a2, c5]; exact n1) ?_
        rw [a2, c5, x1]
        refine j_dadd (p2 := 48) dT_weighIntoFirst_47 rfl (by rw [a1]; exact n2) ?_
        refine j_callV (m' := mT_rounded) (As := [_]) (p2 := 51) dT_weighIntoFirst_48 rfl ml_T_74 ok_mT_rounded im_mT_rounded se_mT_rounded rfl rfl (Nat.le_of_ble_eq_true rfl) ly_21 rfl (Nat.le_of_ble_eq_true rfl) ⟨(Nat.le_of_ble_eq_true rfl), (Nat.le_of_ble_eq_true rfl)⟩ ?_
        refine cTd_rounded efl (by rw [a1]; exact n2) ?_
        rw [a1, x2]
        refine j_dstore_n (p2 := 52) (lv' := [(0, _), (1, _), (2, _)]) dT_weighIntoFirst_51 rfl (Nat.le_of_ble_eq_true rfl) ⟨rfl, rfl, rfl, trivial⟩ ?_
        refine j_aload_n (p2 := 53) dT_weighIntoFirst_52 rfl rfl ?_
        refine j_dload_n (p2 := 54) dT_weighIntoFirst_53 rfl rfl ?_
        refine j_aload_n (p2 := 55) dT_weighIntoFirst_54 rfl rfl ?_
        refine j_ldc2d (p2 := 58) dT_weighIntoFirst_55 rfl cw_T_130 ?_
        refine j_aload_n (p2 := 59) dT_weighIntoFirst_58 rfl rfl ?_
        refine j_getR (p2 := 62) dT_weighIntoFirst_59 rfl fa_T_43 ly_21 rfl ?_
        refine j_iload_n (p2 := 63) dT_weighIntoFirst_62 rfl rfl ?_
        refine j_dald (p2 := 64) dT_weighIntoFirst_63 rfl ly_32 (by decide) (by omega) (by omega) ?_
        refine j_dmul (p2 := 65) dT_weighIntoFirst_64 rfl (by rw [a3, c5]; exact n3) ?_
        refine j_callV (m' := mT_rounded) (As := [_]) (p2 := 68) dT_weighIntoFirst_65 rfl ml_T_74 ok_mT_rounded im_mT_rounded se_mT_rounded rfl rfl (Nat.le_of_ble_eq_true rfl) ly_21 rfl (Nat.le_of_ble_eq_true rfl) ⟨(Nat.le_of_ble_eq_true rfl), (Nat.le_of_ble_eq_true rfl)⟩ ?_
        refine cTd_rounded efl (by rw [a3, c5]; exact n3) ?_
        rw [a3, c5, x3]
        refine j_dadd (p2 := 69) dT_weighIntoFirst_68 rfl n4 ?_
        refine j_callV (m' := mT_rounded) (As := [_]) (p2 := 72) dT_weighIntoFirst_69 rfl ml_T_74 ok_mT_rounded im_mT_rounded se_mT_rounded rfl rfl (Nat.le_of_ble_eq_true rfl) ly_21 rfl (Nat.le_of_ble_eq_true rfl) ⟨(Nat.le_of_ble_eq_true rfl), (Nat.le_of_ble_eq_true rfl)⟩ ?_
        refine cTd_rounded efl n4 ?_
        rw [x4]
        refine j_dstore_n (p2 := 73) (lv' := [(0, _), (1, _), (2, _)]) dT_weighIntoFirst_72 rfl (Nat.le_of_ble_eq_true rfl) ⟨rfl, rfl, rfl, trivial⟩ ?_
        refine j_aload_n (p2 := 74) dT_weighIntoFirst_73 rfl rfl ?_
        refine j_dload_n (p2 := 75) dT_weighIntoFirst_74 rfl rfl ?_
        refine j_aload_n (p2 := 76) dT_weighIntoFirst_75 rfl rfl ?_
        refine j_getR (p2 := 79) dT_weighIntoFirst_76 rfl fa_T_46 ly_21 rfl ?_
        refine j_iload_n (p2 := 80) dT_weighIntoFirst_79 rfl rfl ?_
        refine j_dald (p2 := 81) dT_weighIntoFirst_80 rfl ly_33 (by decide) (by omega) (by omega) ?_
        refine j_dadd (p2 := 82) dT_weighIntoFirst_81 rfl (by rw [a4]; exact n5) ?_
        refine j_callV (m' := mT_rounded) (As := [_]) (p2 := 85) dT_weighIntoFirst_82 rfl ml_T_74 ok_mT_rounded im_mT_rounded se_mT_rounded rfl rfl (Nat.le_of_ble_eq_true rfl) ly_21 rfl (Nat.le_of_ble_eq_true rfl) ⟨(Nat.le_of_ble_eq_true rfl), (Nat.le_of_ble_eq_true rfl)⟩ ?_
        refine cTd_rounded efl (by rw [a4]; exact n5) ?_
        rw [a4, x5]
        refine j_dstore_n (p2 := 86) (lv' := [(0, _), (1, _), (2, _)]) dT_weighIntoFirst_85 rfl (Nat.le_of_ble_eq_true rfl) ⟨rfl, rfl, rfl, trivial⟩ ?_
        refine j_aload_n (p2 := 87) dT_weighIntoFirst_86 rfl rfl ?_
        refine j_getR (p2 := 90) dT_weighIntoFirst_87 rfl fa_T_37 ly_21 rfl ?_
        refine j_iload_n (p2 := 91) dT_weighIntoFirst_90 rfl rfl ?_
        refine j_aload_n (p2 := 92) dT_weighIntoFirst_91 rfl rfl ?_
        refine j_dload_n (p2 := 93) dT_weighIntoFirst_92 rfl rfl ?_
        refine j_ldc2d (p2 := 96) dT_weighIntoFirst_93 rfl cw_T_132 ?_
        refine j_ddiv (p2 := 97) dT_weighIntoFirst_96 rfl (by rw [c6]; exact n6) ?_
        refine j_callV (m' := mT_rounded) (As := [_]) (p2 := 100) dT_weighIntoFirst_97 rfl ml_T_74 ok_mT_rounded im_mT_rounded se_mT_rounded rfl rfl (Nat.le_of_ble_eq_true rfl) ly_21 rfl (Nat.le_of_ble_eq_true rfl) ⟨(Nat.le_of_ble_eq_true rfl), (Nat.le_of_ble_eq_true rfl)⟩ ?_
        refine cTd_rounded efl (by rw [c6]; exact n6) ?_
        rw [c6, x6]
        refine j_dastk (p2 := 101) dT_weighIntoFirst_100 rfl ly_30 (by decide) (by omega) (by omega) ?_
        refine j_iinc (p2 := 104) (lv' := [(0, _), (1, _)]) dT_weighIntoFirst_101 rfl (Nat.le_of_ble_eq_true rfl) rfl ⟨rfl, rfl, trivial⟩ ?_
        refine j_goto (p2 := 2) dT_weighIntoFirst_104 (by decide) ?_
        refine J.loc (lv' := [(0, _), (1, _)]) ⟨rfl, rfl, trivial⟩ ?_
        exact hy
      refine j_iload_n (p2 := 3) dT_weighIntoFirst_2 rfl rfl ?_
      refine j_aload_n (p2 := 4) dT_weighIntoFirst_3 rfl rfl ?_
      refine j_getR (p2 := 7) dT_weighIntoFirst_4 rfl fa_T_49 ly_21 rfl ?_
      refine j_getIk (p2 := 10) dT_weighIntoFirst_7 rfl fa_T_65 ly_3 rfl (ki := 0) rfl ?_
      refine j_icmp_ge (p2 := 13) (tg := 107) dT_weighIntoFirst_10 rfl (by decide) (by constructor <;> omega) (by rw [eN]; constructor <;> omega) (fun h10 => ?_) (fun h10 => ?_)
      · refine j_return dT_weighIntoFirst_107 rfl (by rw [eN] at h10; have e : i = N := (by omega); subst e; rw [hτ]; exact hQ a ha)
      · refine j_aload_n (p2 := 14) dT_weighIntoFirst_13 rfl rfl ?_
        refine j_getR (p2 := 17) dT_weighIntoFirst_14 rfl fa_T_49 ly_21 rfl ?_
        refine j_getR (p2 := 20) dT_weighIntoFirst_17 rfl fa_T_119 ly_3 rfl ?_
        refine j_iload_n (p2 := 21) dT_weighIntoFirst_20 rfl rfl ?_
        refine j_iald (p2 := 22) dT_weighIntoFirst_21 rfl ly_4 (by decide) (by omega) (by rw [eN] at h10; omega) ?_
        refine j_iconst (p2 := 23) dT_weighIntoFirst_22 rfl ?_
        refine j_icmp_ne (p2 := 26) (tg := 101) dT_weighIntoFirst_23 rfl (by decide) (by rw [eN] at h10; rw [eK]; have := kb (by omega); constructor <;> omega) (by constructor <;> omega) (fun h23 => ?_) (fun h23 => ?_)
        · refine j_iinc (p2 := 104) (lv' := [(0, _), (1, _)]) dT_weighIntoFirst_101 rfl (Nat.le_of_ble_eq_true rfl) rfl ⟨rfl, rfl, trivial⟩ ?_
          refine j_goto (p2 := 2) dT_weighIntoFirst_104 (by decide) ?_
          refine J.loc (lv' := [(0, _), (1, _)]) ⟨rfl, rfl, trivial⟩ ?_
          have g : ¬ hI σ 4 i = 2 := by rw [← eK]; exact h23
          rw [eN] at h10
          exact no (by omega) g
        · refine J.loc (lv' := [(0, _), (1, _)]) ⟨rfl, rfl, trivial⟩ ?_
          rw [eN] at h10
          have g : hI σ 4 i = 2 := by rw [← eK]; exact h23
          exact step (by omega) g
  have start := loop (N + 1) 0 (by omega) (by omega) (hD σ 30) (fun m x y => absurd y (by omega)) (fun m x y => rfl)
  rw [wD_id] at start
  refine j_iconst (p2 := 1) dT_weighIntoFirst_0 rfl ?_
  refine j_istore_n (p2 := 2) (lv' := [(0, _), (1, _)]) dT_weighIntoFirst_1 rfl (Nat.le_of_ble_eq_true rfl) ⟨rfl, rfl, trivial⟩ ?_
  refine J.loc (lv' := [(0, _), (1, _)]) ⟨rfl, rfl, trivial⟩ ?_
  exact start
theorem cTf_addSecondToFirst {fr : Int → Int} {K1 K2 : Int → UInt32} {N : Nat} (hc : CtI σ fr N) (hfl : hI σ 34 3 = 1) (h1 : ∀ m : Int, 0 ≤ m → m < N → hI σ 4 m = 2 → hD σ 43 m = cvF (K1 m) ∧ MrF (K1 m)) (h2 : ∀ m : Int, 0 ≤ m → m < N → hI σ 4 m = 2 → hD σ 44 m = cvF (K2 m) ∧ MrF (K2 m))
    (hQ : ∀ a, (∀ m : Int, 0 ≤ m → m < N → hI σ 4 m = 2 → a m = cvF (Aadd arF (K1 m) (K2 m))) → Q none (wD σ 43 a)) : Sp mT_addSecondToFirst [vR 34] σ Q := by
  have hN := hc.1
  have hN2 := hc.2.1
  have loop : ∀ (n i : Nat), i ≤ N → N + 1 ≤ i + n → ∀ a, (∀ m : Int, 0 ≤ m → m < i → hI σ 4 m = 2 → a m = cvF (Aadd arF (K1 m) (K2 m))) → (∀ m : Int, i ≤ m → m < N → a m = hD σ 43 m) → J mT_addSecondToFirst 2 [(0, vR 34), (1, vI i)] [] (wD σ 43 a) Q := by
    intro n
    induction n with
    | zero => intro i h1 h2; exact absurd h2 (by omega)
    | succ n ih =>
      intro i i1 i2 a ha hb
      obtain ⟨τ, hτ⟩ : ∃ τ, τ = wD σ 43 a := ⟨_, rfl⟩
      have eN : hI τ 3 0 = N := by rw [hτ]; exact hN
      have eK : hI τ 4 = hI σ 4 := by rw [hτ]; rfl
      have e1 : hD τ 43 = a := by rw [hτ]; rfl
      have e2 : hD τ 44 = hD σ 44 := by rw [hτ]; rfl
      have efl : hI τ 34 3 = 1 := by rw [hτ]; exact hfl
      have kb : i < N → 0 ≤ hI σ 4 i ∧ hI σ 4 i < 14 := fun h => hc.2.2.1 i (by omega) (by omega)
      have v1 : i < N → hI σ 4 i = 2 → hD τ 43 i = cvF (K1 i) ∧ MrF (K1 i) := fun z g => by rw [e1, hb i (by omega) (by omega)]; exact h1 i (by omega) (by omega) g
      have v2 : i < N → hI σ 4 i = 2 → hD τ 44 i = cvF (K2 i) ∧ MrF (K2 i) := fun z g => by rw [e2]; exact h2 i (by omega) (by omega) g
      have no : i < N → ¬ hI σ 4 i = 2 → J mT_addSecondToFirst 2 [(0, vR 34), (1, vI (i + 1))] [] τ Q := fun z g => by
        rw [hτ]
        exact ih (i + 1) (by omega) (by omega) a (fun m x y w => by
          by_cases e : m = i
          · subst e; exact absurd w g
          · exact ha m x (by omega) w) (fun m x y => hb m (by omega) y)
      have yes : i < N → J mT_addSecondToFirst 2 [(0, vR 34), (1, vI (i + 1))] [] (wD τ 43 (fup (hD τ 43) i (cvF (Aadd arF (K1 i) (K2 i))))) Q := fun z => by
        rw [e1, hτ, wD_wD]
        refine ih (i + 1) (by omega) (by omega) _ (fun m x y w => ?_) (fun m x y => ?_)
        · by_cases e : m = i
          · subst e; rw [fup_s]
          · rw [fup_n e]; exact ha m x (by omega) w
        · rw [fup_n (by omega)]; exact hb m (by omega) y
      clear ih
      rw [← hτ]
      have mm := fun z g => hcF_add (mr_fnF (v1 z g).2) (mr_fnF (v2 z g).2)
      have nn : i < N → hI σ 4 i = 2 → vf_n64 (FP.dadd (cvF (K1 i)) (cvF (K2 i))) := fun z g => nn_add2 (cvF_fn (mr_fnF (v1 z g).2)) (cvF_fn (mr_fnF (v2 z g).2))
      refine j_iload_n (p2 := 3) dT_addSecondToFirst_2 rfl rfl ?_
      refine j_aload_n (p2 := 4) dT_addSecondToFirst_3 rfl rfl ?_
      refine j_getR (p2 := 7) dT_addSecondToFirst_4 rfl fa_T_49 ly_34 rfl ?_
      refine j_getIk (p2 := 10) dT_addSecondToFirst_7 rfl fa_T_65 ly_3 rfl (ki := 0) rfl ?_
      refine j_icmp_ge (p2 := 13) (tg := 55) dT_addSecondToFirst_10 rfl (by decide) (by constructor <;> omega) (by rw [eN]; constructor <;> omega) (fun h10 => ?_) (fun h10 => ?_)
      · refine j_return dT_addSecondToFirst_55 rfl (by rw [eN] at h10; have e : i = N := (by omega); subst e; rw [hτ]; exact hQ a ha)
      · refine j_aload_n (p2 := 14) dT_addSecondToFirst_13 rfl rfl ?_
        refine j_getR (p2 := 17) dT_addSecondToFirst_14 rfl fa_T_49 ly_34 rfl ?_
        refine j_getR (p2 := 20) dT_addSecondToFirst_17 rfl fa_T_119 ly_3 rfl ?_
        refine j_iload_n (p2 := 21) dT_addSecondToFirst_20 rfl rfl ?_
        refine j_iald (p2 := 22) dT_addSecondToFirst_21 rfl ly_4 (by decide) (by omega) (by rw [eN] at h10; omega) ?_
        refine j_iconst (p2 := 23) dT_addSecondToFirst_22 rfl ?_
        refine j_icmp_ne (p2 := 26) (tg := 49) dT_addSecondToFirst_23 rfl (by decide) (by rw [eN] at h10; rw [eK]; have := kb (by omega); constructor <;> omega) (by constructor <;> omega) (fun h23 => ?_) (fun h23 => ?_)
        · refine j_iinc (p2 := 52) (lv' := [(0, _), (1, _)]) dT_addSecondToFirst_49 rfl (Nat.le_of_ble_eq_true rfl) rfl ⟨rfl, rfl, trivial⟩ ?_
          refine j_goto (p2 := 2) dT_addSecondToFirst_52 (by decide) ?_
          refine J.loc (lv' := [(0, _), (1, _)]) ⟨rfl, rfl, trivial⟩ ?_
          have g : ¬ hI σ 4 i = 2 := by rw [← eK]; exact h23
          rw [eN] at h10
          exact no (by omega) g
        · refine J.loc (lv' := [(0, _), (1, _)]) ⟨rfl, rfl, trivial⟩ ?_
          rw [eN] at h10
          have g : hI σ 4 i = 2 := by rw [← eK]; exact h23
          have z : i < N := by omega
          refine j_aload_n (p2 := 27) dT_addSecondToFirst_26 rfl rfl ?_
          refine j_getR (p2 := 30) dT_addSecondToFirst_27 rfl fa_T_37 ly_34 rfl ?_
          refine j_iload_n (p2 := 31) dT_addSecondToFirst_30 rfl rfl ?_
          refine j_aload_n (p2 := 32) dT_addSecondToFirst_31 rfl rfl ?_
          refine j_aload_n (p2 := 33) dT_addSecondToFirst_32 rfl rfl ?_
          refine j_getR (p2 := 36) dT_addSecondToFirst_33 rfl fa_T_37 ly_34 rfl ?_
          refine j_iload_n (p2 := 37) dT_addSecondToFirst_36 rfl rfl ?_
          refine j_dald (p2 := 38) dT_addSecondToFirst_37 rfl ly_43 (by decide) (by omega) (by omega) ?_
          refine j_aload_n (p2 := 39) dT_addSecondToFirst_38 rfl rfl ?_
          refine j_getR (p2 := 42) dT_addSecondToFirst_39 rfl fa_T_40 ly_34 rfl ?_
          refine j_iload_n (p2 := 43) dT_addSecondToFirst_42 rfl rfl ?_
          refine j_dald (p2 := 44) dT_addSecondToFirst_43 rfl ly_44 (by decide) (by omega) (by omega) ?_
          refine j_dadd (p2 := 45) dT_addSecondToFirst_44 rfl (by rw [(v1 z g).1, (v2 z g).1]; exact nn z g) ?_
          refine j_callV (m' := mT_rounded) (As := [_]) (p2 := 48) dT_addSecondToFirst_45 rfl ml_T_74 ok_mT_rounded im_mT_rounded se_mT_rounded rfl rfl (Nat.le_of_ble_eq_true rfl) ly_34 rfl (Nat.le_of_ble_eq_true rfl) ⟨(Nat.le_of_ble_eq_true rfl), (Nat.le_of_ble_eq_true rfl)⟩ ?_
          refine cTf_rounded efl (by rw [(v1 z g).1, (v2 z g).1]; exact nn z g) ?_
          rw [(v1 z g).1, (v2 z g).1, mm z g]
          refine j_dastk (p2 := 49) dT_addSecondToFirst_48 rfl ly_43 (by decide) (by omega) (by omega) ?_
          refine j_iinc (p2 := 52) (lv' := [(0, _), (1, _)]) dT_addSecondToFirst_49 rfl (Nat.le_of_ble_eq_true rfl) rfl ⟨rfl, rfl, trivial⟩ ?_
          refine j_goto (p2 := 2) dT_addSecondToFirst_52 (by decide) ?_
          refine J.loc (lv' := [(0, _), (1, _)]) ⟨rfl, rfl, trivial⟩ ?_
          exact yes z
  have start := loop (N + 1) 0 (by omega) (by omega) (hD σ 43) (fun m x y => absurd y (by omega)) (fun m x y => rfl)
  rw [wD_id] at start
  refine j_iconst (p2 := 1) dT_addSecondToFirst_0 rfl ?_
  refine j_istore_n (p2 := 2) (lv' := [(0, _), (1, _)]) dT_addSecondToFirst_1 rfl (Nat.le_of_ble_eq_true rfl) ⟨rfl, rfl, trivial⟩ ?_
  refine J.loc (lv' := [(0, _), (1, _)]) ⟨rfl, rfl, trivial⟩ ?_
  exact start
theorem cTf_weighIntoFirst {fr : Int → Int} {K1 K2 K3 K4 : Int → UInt32} {N : Nat} (hc : CtI σ fr N) (hfl : hI σ 34 3 = 1) (h1 : ∀ m : Int, 0 ≤ m → m < N → hI σ 4 m = 2 → hD σ 43 m = cvF (K1 m) ∧ MrF (K1 m)) (h2 : ∀ m : Int, 0 ≤ m → m < N → hI σ 4 m = 2 → hD σ 44 m = cvF (K2 m) ∧ MrF (K2 m)) (h3 : ∀ m : Int, 0 ≤ m → m < N → hI σ 4 m = 2 → hD σ 45 m = cvF (K3 m) ∧ MrF (K3 m)) (h4 : ∀ m : Int, 0 ≤ m → m < N → hI σ 4 m = 2 → hD σ 46 m = cvF (K4 m) ∧ MrF (K4 m))
    (hQ : ∀ a, (∀ m : Int, 0 ≤ m → m < N → hI σ 4 m = 2 → a m = cvF (gwg arF (K1 m) (K2 m) (K3 m) (K4 m))) → Q none (wD σ 43 a)) : Sp mT_weighIntoFirst [vR 34] σ Q := by
  have hN := hc.1
  have hN2 := hc.2.1
  have loop : ∀ (n i : Nat), i ≤ N → N + 1 ≤ i + n → ∀ a, (∀ m : Int, 0 ≤ m → m < i → hI σ 4 m = 2 → a m = cvF (gwg arF (K1 m) (K2 m) (K3 m) (K4 m))) → (∀ m : Int, i ≤ m → m < N → a m = hD σ 43 m) → J mT_weighIntoFirst 2 [(0, vR 34), (1, vI i)] [] (wD σ 43 a) Q := by
    intro n
    induction n with
    | zero => intro i h1 h2; exact absurd h2 (by omega)
    | succ n ih =>
      intro i i1 i2 a ha hb
      obtain ⟨τ, hτ⟩ : ∃ τ, τ = wD σ 43 a := ⟨_, rfl⟩
      have eN : hI τ 3 0 = N := by rw [hτ]; exact hN
      have eK : hI τ 4 = hI σ 4 := by rw [hτ]; rfl
      have e1 : hD τ 43 = a := by rw [hτ]; rfl
      have efl : hI τ 34 3 = 1 := by rw [hτ]; exact hfl
      have kb : i < N → 0 ≤ hI σ 4 i ∧ hI σ 4 i < 14 := fun h => hc.2.2.1 i (by omega) (by omega)
      have v1 : i < N → hI σ 4 i = 2 → hD τ 43 i = cvF (K1 i) ∧ MrF (K1 i) := fun z g => by rw [e1, hb i (by omega) (by omega)]; exact h1 i (by omega) (by omega) g
      have v2 : i < N → hI σ 4 i = 2 → hD τ 44 i = cvF (K2 i) ∧ MrF (K2 i) := fun z g => by rw [hτ]; exact h2 i (by omega) (by omega) g
      have v3 : i < N → hI σ 4 i = 2 → hD τ 45 i = cvF (K3 i) ∧ MrF (K3 i) := fun z g => by rw [hτ]; exact h3 i (by omega) (by omega) g
      have v4 : i < N → hI σ 4 i = 2 → hD τ 46 i = cvF (K4 i) ∧ MrF (K4 i) := fun z g => by rw [hτ]; exact h4 i (by omega) (by omega) g
      have no : i < N → ¬ hI σ 4 i = 2 → J mT_weighIntoFirst 2 [(0, vR 34), (1, vI (i + 1))] [] τ Q := fun z g => by
        rw [hτ]
        exact ih (i + 1) (by omega) (by omega) a (fun m x y w => by
          by_cases e : m = i
          · subst e; exact absurd w g
          · exact ha m x (by omega) w) (fun m x y => hb m (by omega) y)
      have yes : i < N → J mT_weighIntoFirst 2 [(0, vR 34), (1, vI (i + 1))] [] (wD τ 43 (fup (hD τ 43) i (cvF (gwg arF (K1 i) (K2 i) (K3 i) (K4 i))))) Q := fun z => by
        rw [e1, hτ, wD_wD]
        refine ih (i + 1) (by omega) (by omega) _ (fun m x y w => ?_) (fun m x y => ?_)
        · by_cases e : m = i
          · subst e; rw [fup_s]
          · rw [fup_n e]; exact ha m x (by omega) w
        · rw [fup_n (by omega)]; exact hb m (by omega) y
      clear ih
      rw [← hτ]
      have step : i < N → hI σ 4 i = 2 → J mT_weighIntoFirst 26 [(0, vR 34), (1, vI i)] [] τ Q := by
        intro z g
        obtain ⟨a1, b1⟩ := v1 z g
        obtain ⟨a2, b2⟩ := v2 z g
        obtain ⟨a3, b3⟩ := v3 z g
        obtain ⟨a4, b4⟩ := v4 z g
        obtain ⟨f1, f2, f3, f4, f5, f6⟩ := wgF b1 b2 b3 b4
        have c5 : (4611686018427387904 : UInt64) = cvF (Ac arF 5) := (hcF_c 5 (by decide)).symm
        have c6 : (4618441417868443648 : UInt64) = cvF (Ac arF 6) := (hcF_c 6 (by decide)).symm
        have x1 := hcF_mul (hcF_cf 5 (by decide)) (mr_fnF b2)
        have n1 := nn_mul (cvF_fn (hcF_cf 5 (by decide))) (cvF_fn (mr_fnF b2))
        have x2 := hcF_add (mr_fnF b1) f1
        have n2 := nn_add2 (cvF_fn (mr_fnF b1)) (cvF_fn f1)
        have x3 := hcF_mul (hcF_cf 5 (by decide)) (mr_fnF b3)
        have n3 := nn_mul (cvF_fn (hcF_cf 5 (by decide))) (cvF_fn (mr_fnF b3))
        have x4 := hcF_add f2 f3
        have n4 := nn_add2 (cvF_fn f2) (cvF_fn f3)
        have x5 := hcF_add f4 (mr_fnF b4)
        have n5 := nn_add2 (cvF_fn f4) (cvF_fn (mr_fnF b4))
        have x6 := hcF_div f5 (hcF_cf 6 (by decide)) nz6cF
        have n6 := nn_div2 (cvF_nn (fn_nnF f5)) (cvF_fn (hcF_cf 6 (by decide))) (by rw [cmp0F (nn_cF 6 (by decide))]; exact nz6cF)
        have hy := yes z
        unfold gwg at hy
        refine j_aload_n (p2 := 27) dT_weighIntoFirst_26 rfl rfl ?_
        refine j_aload_n (p2 := 28) dT_weighIntoFirst_27 rfl rfl ?_
        refine j_getR (p2 := 31) dT_weighIntoFirst_28 rfl fa_T_37 ly_34 rfl ?_
        refine j_iload_n (p2 := 32) dT_weighIntoFirst_31 rfl rfl ?_
        refine j_dald (p2 := 33) dT_weighIntoFirst_32 rfl ly_43 (by decide) (by omega) (by omega) ?_
        refine j_aload_n (p2 := 34) dT_weighIntoFirst_33 rfl rfl ?_
        refine j_ldc2d (p2 := 37) dT_weighIntoFirst_34 rfl cw_T_130 ?_
        refine j_aload_n (p2 := 38) dT_weighIntoFirst_37 rfl rfl ?_
        refine j_getR (p2 := 41) dT_weighIntoFirst_38 rfl fa_T_40 ly_34 rfl ?_
        refine j_iload_n (p2 := 42) dT_weighIntoFirst_41 rfl rfl ?_
        refine j_dald (p2 := 43) dT_weighIntoFirst_42 rfl ly_44 (by decide) (by omega) (by omega) ?_
        refine j_dmul (p2 := 44) dT_weighIntoFirst_43 rfl (by rw [a2, c5]; exact n1) ?_
        refine j_callV (m' := mT_rounded) (As := [_]) (p2 := 47) dT_weighIntoFirst_44 rfl ml_T_74 ok_mT_rounded im_mT_rounded se_mT_rounded rfl rfl (Nat.le_of_ble_eq_true rfl) ly_34 rfl (Nat.le_of_ble_eq_true rfl) ⟨(Nat.le_of_ble_eq_true rfl), (Nat.le_of_ble_eq_true rfl)⟩ ?_
        refine cTf_rounded efl (by rw [a2, c5]; exact n1) ?_
        rw [a2, c5, x1]
        refine j_dadd (p2 := 48) dT_weighIntoFirst_47 rfl (by rw [a1]; exact n2) ?_
        refine j_callV (m' := mT_rounded) (As := [_]) (p2 := 51) dT_weighIntoFirst_48 rfl ml_T_74 ok_mT_rounded im_mT_rounded se_mT_rounded rfl rfl (Nat.le_of_ble_eq_true rfl) ly_34 rfl (Nat.le_of_ble_eq_true rfl) ⟨(Nat.le_of_ble_eq_true rfl), (Nat.le_of_ble_eq_true rfl)⟩ ?_
        refine cTf_rounded efl (by rw [a1]; exact n2) ?_
        rw [a1, x2]
        refine j_dstore_n (p2 := 52) (lv' := [(0, _), (1, _), (2, _)]) dT_weighIntoFirst_51 rfl (Nat.le_of_ble_eq_true rfl) ⟨rfl, rfl, rfl, trivial⟩ ?_
        refine j_aload_n (p2 := 53) dT_weighIntoFirst_52 rfl rfl ?_
        refine j_dload_n (p2 := 54) dT_weighIntoFirst_53 rfl rfl ?_
        refine j_aload_n (p2 := 55) dT_weighIntoFirst_54 rfl rfl ?_
        refine j_ldc2d (p2 := 58) dT_weighIntoFirst_55 rfl cw_T_130 ?_
        refine j_aload_n (p2 := 59) dT_weighIntoFirst_58 rfl rfl ?_
        refine j_getR (p2 := 62) dT_weighIntoFirst_59 rfl fa_T_43 ly_34 rfl ?_
        refine j_iload_n (p2 := 63) dT_weighIntoFirst_62 rfl rfl ?_
        refine j_dald (p2 := 64) dT_weighIntoFirst_63 rfl ly_45 (by decide) (by omega) (by omega) ?_
        refine j_dmul (p2 := 65) dT_weighIntoFirst_64 rfl (by rw [a3, c5]; exact n3) ?_
        refine j_callV (m' := mT_rounded) (As := [_]) (p2 := 68) dT_weighIntoFirst_65 rfl ml_T_74 ok_mT_rounded im_mT_rounded se_mT_rounded rfl rfl (Nat.le_of_ble_eq_true rfl) ly_34 rfl (Nat.le_of_ble_eq_true rfl) ⟨(Nat.le_of_ble_eq_true rfl), (Nat.le_of_ble_eq_true rfl)⟩ ?_
        refine cTf_rounded efl (by rw [a3, c5]; exact n3) ?_
        rw [a3, c5, x3]
        refine j_dadd (p2 := 69) dT_weighIntoFirst_68 rfl n4 ?_
        refine j_callV (m' := mT_rounded) (As := [_]) (p2 := 72) dT_weighIntoFirst_69 rfl ml_T_74 ok_mT_rounded im_mT_rounded se_mT_rounded rfl rfl (Nat.le_of_ble_eq_true rfl) ly_34 rfl (Nat.le_of_ble_eq_true rfl) ⟨(Nat.le_of_ble_eq_true rfl), (Nat.le_of_ble_eq_true rfl)⟩ ?_
        refine cTf_rounded efl n4 ?_
        rw [x4]
        refine j_dstore_n (p2 := 73) (lv' := [(0, _), (1, _), (2, _)]) dT_weighIntoFirst_72 rfl (Nat.le_of_ble_eq_true rfl) ⟨rfl, rfl, rfl, trivial⟩ ?_
        refine j_aload_n (p2 := 74) dT_weighIntoFirst_73 rfl rfl ?_
        refine j_dload_n (p2 := 75) dT_weighIntoFirst_74 rfl rfl ?_
        refine j_aload_n (p2 := 76) dT_weighIntoFirst_75 rfl rfl ?_
        refine j_getR (p2 := 79) dT_weighIntoFirst_76 rfl fa_T_46 ly_34 rfl ?_
        refine j_iload_n (p2 := 80) dT_weighIntoFirst_79 rfl rfl ?_
        refine j_dald (p2 := 81) dT_weighIntoFirst_80 rfl ly_46 (by decide) (by omega) (by omega) ?_
        refine j_dadd (p2 := 82) dT_weighIntoFirst_81 rfl (by rw [a4]; exact n5) ?_
        refine j_callV (m' := mT_rounded) (As := [_]) (p2 := 85) dT_weighIntoFirst_82 rfl ml_T_74 ok_mT_rounded im_mT_rounded se_mT_rounded rfl rfl (Nat.le_of_ble_eq_true rfl) ly_34 rfl (Nat.le_of_ble_eq_true rfl) ⟨(Nat.le_of_ble_eq_true rfl), (Nat.le_of_ble_eq_true rfl)⟩ ?_
        refine cTf_rounded efl (by rw [a4]; exact n5) ?_
        rw [a4, x5]
        refine j_dstore_n (p2 := 86) (lv' := [(0, _), (1, _), (2, _)]) dT_weighIntoFirst_85 rfl (Nat.le_of_ble_eq_true rfl) ⟨rfl, rfl, rfl, trivial⟩ ?_
        refine j_aload_n (p2 := 87) dT_weighIntoFirst_86 rfl rfl ?_
        refine j_getR (p2 := 90) dT_weighIntoFirst_87 rfl fa_T_37 ly_34 rfl ?_
        refine j_iload_n (p2 := 91) dT_weighIntoFirst_90 rfl rfl ?_
        refine j_aload_n (p2 := 92) dT_weighIntoFirst_91 rfl rfl ?_
        refine j_dload_n (p2 := 93) dT_weighIntoFirst_92 rfl rfl ?_
        refine j_ldc2d (p2 := 96) dT_weighIntoFirst_93 rfl cw_T_132 ?_
        refine j_ddiv (p2 := 97) dT_weighIntoFirst_96 rfl (by rw [c6]; exact n6) ?_
        refine j_callV (m' := mT_rounded) (As := [_]) (p2 := 100) dT_weighIntoFirst_97 rfl ml_T_74 ok_mT_rounded im_mT_rounded se_mT_rounded rfl rfl (Nat.le_of_ble_eq_true rfl) ly_34 rfl (Nat.le_of_ble_eq_true rfl) ⟨(Nat.le_of_ble_eq_true rfl), (Nat.le_of_ble_eq_true rfl)⟩ ?_
        refine cTf_rounded efl (by rw [c6]; exact n6) ?_
        rw [c6, x6]
        refine j_dastk (p2 := 101) dT_weighIntoFirst_100 rfl ly_43 (by decide) (by omega) (by omega) ?_
        refine j_iinc (p2 := 104) (lv' := [(0, _), (1, _)]) dT_weighIntoFirst_101 rfl (Nat.le_of_ble_eq_true rfl) rfl ⟨rfl, rfl, trivial⟩ ?_
        refine j_goto (p2 := 2) dT_weighIntoFirst_104 (by decide) ?_
        refine J.loc (lv' := [(0, _), (1, _)]) ⟨rfl, rfl, trivial⟩ ?_
        exact hy
      refine j_iload_n (p2 := 3) dT_weighIntoFirst_2 rfl rfl ?_
      refine j_aload_n (p2 := 4) dT_weighIntoFirst_3 rfl rfl ?_
      refine j_getR (p2 := 7) dT_weighIntoFirst_4 rfl fa_T_49 ly_34 rfl ?_
      refine j_getIk (p2 := 10) dT_weighIntoFirst_7 rfl fa_T_65 ly_3 rfl (ki := 0) rfl ?_
      refine j_icmp_ge (p2 := 13) (tg := 107) dT_weighIntoFirst_10 rfl (by decide) (by constructor <;> omega) (by rw [eN]; constructor <;> omega) (fun h10 => ?_) (fun h10 => ?_)
      · refine j_return dT_weighIntoFirst_107 rfl (by rw [eN] at h10; have e : i = N := (by omega); subst e; rw [hτ]; exact hQ a ha)
      · refine j_aload_n (p2 := 14) dT_weighIntoFirst_13 rfl rfl ?_
        refine j_getR (p2 := 17) dT_weighIntoFirst_14 rfl fa_T_49 ly_34 rfl ?_
        refine j_getR (p2 := 20) dT_weighIntoFirst_17 rfl fa_T_119 ly_3 rfl ?_
        refine j_iload_n (p2 := 21) dT_weighIntoFirst_20 rfl rfl ?_
        refine j_iald (p2 := 22) dT_weighIntoFirst_21 rfl ly_4 (by decide) (by omega) (by rw [eN] at h10; omega) ?_
        refine j_iconst (p2 := 23) dT_weighIntoFirst_22 rfl ?_
        refine j_icmp_ne (p2 := 26) (tg := 101) dT_weighIntoFirst_23 rfl (by decide) (by rw [eN] at h10; rw [eK]; have := kb (by omega); constructor <;> omega) (by constructor <;> omega) (fun h23 => ?_) (fun h23 => ?_)
        · refine j_iinc (p2 := 104) (lv' := [(0, _), (1, _)]) dT_weighIntoFirst_101 rfl (Nat.le_of_ble_eq_true rfl) rfl ⟨rfl, rfl, trivial⟩ ?_
          refine j_goto (p2 := 2) dT_weighIntoFirst_104 (by decide) ?_
          refine J.loc (lv' := [(0, _), (1, _)]) ⟨rfl, rfl, trivial⟩ ?_
          have g : ¬ hI σ 4 i = 2 := by rw [← eK]; exact h23
          rw [eN] at h10
          exact no (by omega) g
        · refine J.loc (lv' := [(0, _), (1, _)]) ⟨rfl, rfl, trivial⟩ ?_
          rw [eN] at h10
          have g : hI σ 4 i = 2 := by rw [← eK]; exact h23
          exact step (by omega) g
  have start := loop (N + 1) 0 (by omega) (by omega) (hD σ 43) (fun m x y => absurd y (by omega)) (fun m x y => rfl)
  rw [wD_id] at start
  refine j_iconst (p2 := 1) dT_weighIntoFirst_0 rfl ?_
  refine j_istore_n (p2 := 2) (lv' := [(0, _), (1, _)]) dT_weighIntoFirst_1 rfl (Nat.le_of_ble_eq_true rfl) ⟨rfl, rfl, trivial⟩ ?_
  refine J.loc (lv' := [(0, _), (1, _)]) ⟨rfl, rfl, trivial⟩ ?_
  exact start
theorem cTt_addSecondToFirst {fr : Int → Int} {K1 K2 : Int → UInt64} {N : Nat} (hc : CtI σ fr N) (hfl : hI σ 56 3 = 0) (h1 : ∀ m : Int, 0 ≤ m → m < N → hI σ 4 m = 2 → hD σ 65 m = cvD (K1 m) ∧ MrD (K1 m)) (h2 : ∀ m : Int, 0 ≤ m → m < N → hI σ 4 m = 2 → hD σ 66 m = cvD (K2 m) ∧ MrD (K2 m))
    (hQ : ∀ a, (∀ m : Int, 0 ≤ m → m < N → hI σ 4 m = 2 → a m = cvD (Aadd arD (K1 m) (K2 m))) → Q none (wD σ 65 a)) : Sp mT_addSecondToFirst [vR 56] σ Q := by
  have hN := hc.1
  have hN2 := hc.2.1
  have loop : ∀ (n i : Nat), i ≤ N → N + 1 ≤ i + n → ∀ a, (∀ m : Int, 0 ≤ m → m < i → hI σ 4 m = 2 → a m = cvD (Aadd arD (K1 m) (K2 m))) → (∀ m : Int, i ≤ m → m < N → a m = hD σ 65 m) → J mT_addSecondToFirst 2 [(0, vR 56), (1, vI i)] [] (wD σ 65 a) Q := by
    intro n
    induction n with
    | zero => intro i h1 h2; exact absurd h2 (by omega)
    | succ n ih =>
      intro i i1 i2 a ha hb
      obtain ⟨τ, hτ⟩ : ∃ τ, τ = wD σ 65 a := ⟨_, rfl⟩
      have eN : hI τ 3 0 = N := by rw [hτ]; exact hN
      have eK : hI τ 4 = hI σ 4 := by rw [hτ]; rfl
      have e1 : hD τ 65 = a := by rw [hτ]; rfl
      have e2 : hD τ 66 = hD σ 66 := by rw [hτ]; rfl
      have efl : hI τ 56 3 = 0 := by rw [hτ]; exact hfl
      have kb : i < N → 0 ≤ hI σ 4 i ∧ hI σ 4 i < 14 := fun h => hc.2.2.1 i (by omega) (by omega)
      have v1 : i < N → hI σ 4 i = 2 → hD τ 65 i = cvD (K1 i) ∧ MrD (K1 i) := fun z g => by rw [e1, hb i (by omega) (by omega)]; exact h1 i (by omega) (by omega) g
      have v2 : i < N → hI σ 4 i = 2 → hD τ 66 i = cvD (K2 i) ∧ MrD (K2 i) := fun z g => by rw [e2]; exact h2 i (by omega) (by omega) g
      have no : i < N → ¬ hI σ 4 i = 2 → J mT_addSecondToFirst 2 [(0, vR 56), (1, vI (i + 1))] [] τ Q := fun z g => by
        rw [hτ]
        exact ih (i + 1) (by omega) (by omega) a (fun m x y w => by
          by_cases e : m = i
          · subst e; exact absurd w g
          · exact ha m x (by omega) w) (fun m x y => hb m (by omega) y)
      have yes : i < N → J mT_addSecondToFirst 2 [(0, vR 56), (1, vI (i + 1))] [] (wD τ 65 (fup (hD τ 65) i (cvD (Aadd arD (K1 i) (K2 i))))) Q := fun z => by
        rw [e1, hτ, wD_wD]
        refine ih (i + 1) (by omega) (by omega) _ (fun m x y w => ?_) (fun m x y => ?_)
        · by_cases e : m = i
          · subst e; rw [fup_s]
          · rw [fup_n e]; exact ha m x (by omega) w
        · rw [fup_n (by omega)]; exact hb m (by omega) y
      clear ih
      rw [← hτ]
      have mm := fun z g => hcD_add (mr_fnD (v1 z g).2) (mr_fnD (v2 z g).2)
      have nn : i < N → hI σ 4 i = 2 → vf_n64 (FP.dadd (cvD (K1 i)) (cvD (K2 i))) := fun z g => nn_add2 (cvD_fn (mr_fnD (v1 z g).2)) (cvD_fn (mr_fnD (v2 z g).2))
      refine j_iload_n (p2 := 3) dT_addSecondToFirst_2 rfl rfl ?_
      refine j_aload_n (p2 := 4) dT_addSecondToFirst_3 rfl rfl ?_
      refine j_getR (p2 := 7) dT_addSecondToFirst_4 rfl fa_T_49 ly_56 rfl ?_
      refine j_getIk (p2 := 10) dT_addSecondToFirst_7 rfl fa_T_65 ly_3 rfl (ki := 0) rfl ?_
      refine j_icmp_ge (p2 := 13) (tg := 55) dT_addSecondToFirst_10 rfl (by decide) (by constructor <;> omega) (by rw [eN]; constructor <;> omega) (fun h10 => ?_) (fun h10 => ?_)
      · refine j_return dT_addSecondToFirst_55 rfl (by rw [eN] at h10; have e : i = N := (by omega); subst e; rw [hτ]; exact hQ a ha)
      · refine j_aload_n (p2 := 14) dT_addSecondToFirst_13 rfl rfl ?_
        refine j_getR (p2 := 17) dT_addSecondToFirst_14 rfl fa_T_49 ly_56 rfl ?_
        refine j_getR (p2 := 20) dT_addSecondToFirst_17 rfl fa_T_119 ly_3 rfl ?_
        refine j_iload_n (p2 := 21) dT_addSecondToFirst_20 rfl rfl ?_
        refine j_iald (p2 := 22) dT_addSecondToFirst_21 rfl ly_4 (by decide) (by omega) (by rw [eN] at h10; omega) ?_
        refine j_iconst (p2 := 23) dT_addSecondToFirst_22 rfl ?_
        refine j_icmp_ne (p2 := 26) (tg := 49) dT_addSecondToFirst_23 rfl (by decide) (by rw [eN] at h10; rw [eK]; have := kb (by omega); constructor <;> omega) (by constructor <;> omega) (fun h23 => ?_) (fun h23 => ?_)
        · refine j_iinc (p2 := 52) (lv' := [(0, _), (1, _)]) dT_addSecondToFirst_49 rfl (Nat.le_of_ble_eq_true rfl) rfl ⟨rfl, rfl, trivial⟩ ?_
          refine j_goto (p2 := 2) dT_addSecondToFirst_52 (by decide) ?_
          refine J.loc (lv' := [(0, _), (1, _)]) ⟨rfl, rfl, trivial⟩ ?_
          have g : ¬ hI σ 4 i = 2 := by rw [← eK]; exact h23
          rw [eN] at h10
          exact no (by omega) g
        · refine J.loc (lv' := [(0, _), (1, _)]) ⟨rfl, rfl, trivial⟩ ?_
          rw [eN] at h10
          have g : hI σ 4 i = 2 := by rw [← eK]; exact h23
          have z : i < N := by omega
          refine j_aload_n (p2 := 27) dT_addSecondToFirst_26 rfl rfl ?_
          refine j_getR (p2 := 30) dT_addSecondToFirst_27 rfl fa_T_37 ly_56 rfl ?_
          refine j_iload_n (p2 := 31) dT_addSecondToFirst_30 rfl rfl ?_
          refine j_aload_n (p2 := 32) dT_addSecondToFirst_31 rfl rfl ?_
          refine j_aload_n (p2 := 33) dT_addSecondToFirst_32 rfl rfl ?_
          refine j_getR (p2 := 36) dT_addSecondToFirst_33 rfl fa_T_37 ly_56 rfl ?_
          refine j_iload_n (p2 := 37) dT_addSecondToFirst_36 rfl rfl ?_
          refine j_dald (p2 := 38) dT_addSecondToFirst_37 rfl ly_65 (by decide) (by omega) (by omega) ?_
          refine j_aload_n (p2 := 39) dT_addSecondToFirst_38 rfl rfl ?_
          refine j_getR (p2 := 42) dT_addSecondToFirst_39 rfl fa_T_40 ly_56 rfl ?_
          refine j_iload_n (p2 := 43) dT_addSecondToFirst_42 rfl rfl ?_
          refine j_dald (p2 := 44) dT_addSecondToFirst_43 rfl ly_66 (by decide) (by omega) (by omega) ?_
          refine j_dadd (p2 := 45) dT_addSecondToFirst_44 rfl (by rw [(v1 z g).1, (v2 z g).1]; exact nn z g) ?_
          refine j_callV (m' := mT_rounded) (As := [_]) (p2 := 48) dT_addSecondToFirst_45 rfl ml_T_74 ok_mT_rounded im_mT_rounded se_mT_rounded rfl rfl (Nat.le_of_ble_eq_true rfl) ly_56 rfl (Nat.le_of_ble_eq_true rfl) ⟨(Nat.le_of_ble_eq_true rfl), (Nat.le_of_ble_eq_true rfl)⟩ ?_
          refine cTt_rounded efl (by rw [(v1 z g).1, (v2 z g).1]; exact nn z g) ?_
          rw [(v1 z g).1, (v2 z g).1, mm z g]
          refine j_dastk (p2 := 49) dT_addSecondToFirst_48 rfl ly_65 (by decide) (by omega) (by omega) ?_
          refine j_iinc (p2 := 52) (lv' := [(0, _), (1, _)]) dT_addSecondToFirst_49 rfl (Nat.le_of_ble_eq_true rfl) rfl ⟨rfl, rfl, trivial⟩ ?_
          refine j_goto (p2 := 2) dT_addSecondToFirst_52 (by decide) ?_
          refine J.loc (lv' := [(0, _), (1, _)]) ⟨rfl, rfl, trivial⟩ ?_
          exact yes z
  have start := loop (N + 1) 0 (by omega) (by omega) (hD σ 65) (fun m x y => absurd y (by omega)) (fun m x y => rfl)
  rw [wD_id] at start
  refine j_iconst (p2 := 1) dT_addSecondToFirst_0 rfl ?_
  refine j_istore_n (p2 := 2) (lv' := [(0, _), (1, _)]) dT_addSecondToFirst_1 rfl (Nat.le_of_ble_eq_true rfl) ⟨rfl, rfl, trivial⟩ ?_
  refine J.loc (lv' := [(0, _), (1, _)]) ⟨rfl, rfl, trivial⟩ ?_
  exact start
theorem cTt_weighIntoFirst {fr : Int → Int} {K1 K2 K3 K4 : Int → UInt64} {N : Nat} (hc : CtI σ fr N) (hfl : hI σ 56 3 = 0) (h1 : ∀ m : Int, 0 ≤ m → m < N → hI σ 4 m = 2 → hD σ 65 m = cvD (K1 m) ∧ MrD (K1 m)) (h2 : ∀ m : Int, 0 ≤ m → m < N → hI σ 4 m = 2 → hD σ 66 m = cvD (K2 m) ∧ MrD (K2 m)) (h3 : ∀ m : Int, 0 ≤ m → m < N → hI σ 4 m = 2 → hD σ 67 m = cvD (K3 m) ∧ MrD (K3 m)) (h4 : ∀ m : Int, 0 ≤ m → m < N → hI σ 4 m = 2 → hD σ 68 m = cvD (K4 m) ∧ MrD (K4 m))
    (hQ : ∀ a, (∀ m : Int, 0 ≤ m → m < N → hI σ 4 m = 2 → a m = cvD (gwg arD (K1 m) (K2 m) (K3 m) (K4 m))) → Q none (wD σ 65 a)) : Sp mT_weighIntoFirst [vR 56] σ Q := by
  have hN := hc.1
  have hN2 := hc.2.1
  have loop : ∀ (n i : Nat), i ≤ N → N + 1 ≤ i + n → ∀ a, (∀ m : Int, 0 ≤ m → m < i → hI σ 4 m = 2 → a m = cvD (gwg arD (K1 m) (K2 m) (K3 m) (K4 m))) → (∀ m : Int, i ≤ m → m < N → a m = hD σ 65 m) → J mT_weighIntoFirst 2 [(0, vR 56), (1, vI i)] [] (wD σ 65 a) Q := by
    intro n
    induction n with
    | zero => intro i h1 h2; exact absurd h2 (by omega)
    | succ n ih =>
      intro i i1 i2 a ha hb
      obtain ⟨τ, hτ⟩ : ∃ τ, τ = wD σ 65 a := ⟨_, rfl⟩
      have eN : hI τ 3 0 = N := by rw [hτ]; exact hN
      have eK : hI τ 4 = hI σ 4 := by rw [hτ]; rfl
      have e1 : hD τ 65 = a := by rw [hτ]; rfl
      have efl : hI τ 56 3 = 0 := by rw [hτ]; exact hfl
      have kb : i < N → 0 ≤ hI σ 4 i ∧ hI σ 4 i < 14 := fun h => hc.2.2.1 i (by omega) (by omega)
      have v1 : i < N → hI σ 4 i = 2 → hD τ 65 i = cvD (K1 i) ∧ MrD (K1 i) := fun z g => by rw [e1, hb i (by omega) (by omega)]; exact h1 i (by omega) (by omega) g
      have v2 : i < N → hI σ 4 i = 2 → hD τ 66 i = cvD (K2 i) ∧ MrD (K2 i) := fun z g => by rw [hτ]; exact h2 i (by omega) (by omega) g
      have v3 : i < N → hI σ 4 i = 2 → hD τ 67 i = cvD (K3 i) ∧ MrD (K3 i) := fun z g => by rw [hτ]; exact h3 i (by omega) (by omega) g
      have v4 : i < N → hI σ 4 i = 2 → hD τ 68 i = cvD (K4 i) ∧ MrD (K4 i) := fun z g => by rw [hτ]; exact h4 i (by omega) (by omega) g
      have no : i < N → ¬ hI σ 4 i = 2 → J mT_weighIntoFirst 2 [(0, vR 56), (1, vI (i + 1))] [] τ Q := fun z g => by
        rw [hτ]
        exact ih (i + 1) (by omega) (by omega) a (fun m x y w => by
          by_cases e : m = i
          · subst e; exact absurd w g
          · exact ha m x (by omega) w) (fun m x y => hb m (by omega) y)
      have yes : i < N → J mT_weighIntoFirst 2 [(0, vR 56), (1, vI (i + 1))] [] (wD τ 65 (fup (hD τ 65) i (cvD (gwg arD (K1 i) (K2 i) (K3 i) (K4 i))))) Q := fun z => by
        rw [e1, hτ, wD_wD]
        refine ih (i + 1) (by omega) (by omega) _ (fun m x y w => ?_) (fun m x y => ?_)
        · by_cases e : m = i
          · subst e; rw [fup_s]
          · rw [fup_n e]; exact ha m x (by omega) w
        · rw [fup_n (by omega)]; exact hb m (by omega) y
      clear ih
      rw [← hτ]
      have step : i < N → hI σ 4 i = 2 → J mT_weighIntoFirst 26 [(0, vR 56), (1, vI i)] [] τ Q := by
        intro z g
        obtain ⟨a1, b1⟩ := v1 z g
        obtain ⟨a2, b2⟩ := v2 z g
        obtain ⟨a3, b3⟩ := v3 z g
        obtain ⟨a4, b4⟩ := v4 z g
        obtain ⟨f1, f2, f3, f4, f5, f6⟩ := wgD b1 b2 b3 b4
        have c5 : (4611686018427387904 : UInt64) = cvD (Ac arD 5) := (hcD_c 5 (by decide)).symm
        have c6 : (4618441417868443648 : UInt64) = cvD (Ac arD 6) := (hcD_c 6 (by decide)).symm
        have x1 := hcD_mul (hcD_cf 5 (by decide)) (mr_fnD b2)
        have n1 := nn_mul (cvD_fn (hcD_cf 5 (by decide))) (cvD_fn (mr_fnD b2))
        have x2 := hcD_add (mr_fnD b1) f1
        have n2 := nn_add2 (cvD_fn (mr_fnD b1)) (cvD_fn f1)
        have x3 := hcD_mul (hcD_cf 5 (by decide)) (mr_fnD b3)
        have n3 := nn_mul (cvD_fn (hcD_cf 5 (by decide))) (cvD_fn (mr_fnD b3))
        have x4 := hcD_add f2 f3
        have n4 := nn_add2 (cvD_fn f2) (cvD_fn f3)
        have x5 := hcD_add f4 (mr_fnD b4)
        have n5 := nn_add2 (cvD_fn f4) (cvD_fn (mr_fnD b4))
        have x6 := hcD_div f5 (hcD_cf 6 (by decide)) nz6cD
        have n6 := nn_div2 (cvD_nn (fn_nnD f5)) (cvD_fn (hcD_cf 6 (by decide))) (by rw [cmp0D (nn_cD 6 (by decide))]; exact nz6cD)
        have hy := yes z
        unfold gwg at hy
        refine j_aload_n (p2 := 27) dT_weighIntoFirst_26 rfl rfl ?_
        refine j_aload_n (p2 := 28) dT_weighIntoFirst_27 rfl rfl ?_
        refine j_getR (p2 := 31) dT_weighIntoFirst_28 rfl fa_T_37 ly_56 rfl ?_
        refine j_iload_n (p2 := 32) dT_weighIntoFirst_31 rfl rfl ?_
        refine j_dald (p2 := 33) dT_weighIntoFirst_32 rfl ly_65 (by decide) (by omega) (by omega) ?_
        refine j_aload_n (p2 := 34) dT_weighIntoFirst_33 rfl rfl ?_
        refine j_ldc2d (p2 := 37) dT_weighIntoFirst_34 rfl cw_T_130 ?_
        refine j_aload_n (p2 := 38) dT_weighIntoFirst_37 rfl rfl ?_
        refine j_getR (p2 := 41) dT_weighIntoFirst_38 rfl fa_T_40 ly_56 rfl ?_
        refine j_iload_n (p2 := 42) dT_weighIntoFirst_41 rfl rfl ?_
        refine j_dald (p2 := 43) dT_weighIntoFirst_42 rfl ly_66 (by decide) (by omega) (by omega) ?_
        refine j_dmul (p2 := 44) dT_weighIntoFirst_43 rfl (by rw [a2, c5]; exact n1) ?_
        refine j_callV (m' := mT_rounded) (As := [_]) (p2 := 47) dT_weighIntoFirst_44 rfl ml_T_74 ok_mT_rounded im_mT_rounded se_mT_rounded rfl rfl (Nat.le_of_ble_eq_true rfl) ly_56 rfl (Nat.le_of_ble_eq_true rfl) ⟨(Nat.le_of_ble_eq_true rfl), (Nat.le_of_ble_eq_true rfl)⟩ ?_
        refine cTt_rounded efl (by rw [a2, c5]; exact n1) ?_
        rw [a2, c5, x1]
        refine j_dadd (p2 := 48) dT_weighIntoFirst_47 rfl (by rw [a1]; exact n2) ?_
        refine j_callV (m' := mT_rounded) (As := [_]) (p2 := 51) dT_weighIntoFirst_48 rfl ml_T_74 ok_mT_rounded im_mT_rounded se_mT_rounded rfl rfl (Nat.le_of_ble_eq_true rfl) ly_56 rfl (Nat.le_of_ble_eq_true rfl) ⟨(Nat.le_of_ble_eq_true rfl), (Nat.le_of_ble_eq_true rfl)⟩ ?_
        refine cTt_rounded efl (by rw [a1]; exact n2) ?_
        rw [a1, x2]
        refine j_dstore_n (p2 := 52) (lv' := [(0, _), (1, _), (2, _)]) dT_weighIntoFirst_51 rfl (Nat.le_of_ble_eq_true rfl) ⟨rfl, rfl, rfl, trivial⟩ ?_
        refine j_aload_n (p2 := 53) dT_weighIntoFirst_52 rfl rfl ?_
        refine j_dload_n (p2 := 54) dT_weighIntoFirst_53 rfl rfl ?_
        refine j_aload_n (p2 := 55) dT_weighIntoFirst_54 rfl rfl ?_
        refine j_ldc2d (p2 := 58) dT_weighIntoFirst_55 rfl cw_T_130 ?_
        refine j_aload_n (p2 := 59) dT_weighIntoFirst_58 rfl rfl ?_
        refine j_getR (p2 := 62) dT_weighIntoFirst_59 rfl fa_T_43 ly_56 rfl ?_
        refine j_iload_n (p2 := 63) dT_weighIntoFirst_62 rfl rfl ?_
        refine j_dald (p2 := 64) dT_weighIntoFirst_63 rfl ly_67 (by decide) (by omega) (by omega) ?_
        refine j_dmul (p2 := 65) dT_weighIntoFirst_64 rfl (by rw [a3, c5]; exact n3) ?_
        refine j_callV (m' := mT_rounded) (As := [_]) (p2 := 68) dT_weighIntoFirst_65 rfl ml_T_74 ok_mT_rounded im_mT_rounded se_mT_rounded rfl rfl (Nat.le_of_ble_eq_true rfl) ly_56 rfl (Nat.le_of_ble_eq_true rfl) ⟨(Nat.le_of_ble_eq_true rfl), (Nat.le_of_ble_eq_true rfl)⟩ ?_
        refine cTt_rounded efl (by rw [a3, c5]; exact n3) ?_
        rw [a3, c5, x3]
        refine j_dadd (p2 := 69) dT_weighIntoFirst_68 rfl n4 ?_
        refine j_callV (m' := mT_rounded) (As := [_]) (p2 := 72) dT_weighIntoFirst_69 rfl ml_T_74 ok_mT_rounded im_mT_rounded se_mT_rounded rfl rfl (Nat.le_of_ble_eq_true rfl) ly_56 rfl (Nat.le_of_ble_eq_true rfl) ⟨(Nat.le_of_ble_eq_true rfl), (Nat.le_of_ble_eq_true rfl)⟩ ?_
        refine cTt_rounded efl n4 ?_
        rw [x4]
        refine j_dstore_n (p2 := 73) (lv' := [(0, _), (1, _), (2, _)]) dT_weighIntoFirst_72 rfl (Nat.le_of_ble_eq_true rfl) ⟨rfl, rfl, rfl, trivial⟩ ?_
        refine j_aload_n (p2 := 74) dT_weighIntoFirst_73 rfl rfl ?_
        refine j_dload_n (p2 := 75) dT_weighIntoFirst_74 rfl rfl ?_
        refine j_aload_n (p2 := 76) dT_weighIntoFirst_75 rfl rfl ?_
        refine j_getR (p2 := 79) dT_weighIntoFirst_76 rfl fa_T_46 ly_56 rfl ?_
        refine j_iload_n (p2 := 80) dT_weighIntoFirst_79 rfl rfl ?_
        refine j_dald (p2 := 81) dT_weighIntoFirst_80 rfl ly_68 (by decide) (by omega) (by omega) ?_
        refine j_dadd (p2 := 82) dT_weighIntoFirst_81 rfl (by rw [a4]; exact n5) ?_
        refine j_callV (m' := mT_rounded) (As := [_]) (p2 := 85) dT_weighIntoFirst_82 rfl ml_T_74 ok_mT_rounded im_mT_rounded se_mT_rounded rfl rfl (Nat.le_of_ble_eq_true rfl) ly_56 rfl (Nat.le_of_ble_eq_true rfl) ⟨(Nat.le_of_ble_eq_true rfl), (Nat.le_of_ble_eq_true rfl)⟩ ?_
        refine cTt_rounded efl (by rw [a4]; exact n5) ?_
        rw [a4, x5]
        refine j_dstore_n (p2 := 86) (lv' := [(0, _), (1, _), (2, _)]) dT_weighIntoFirst_85 rfl (Nat.le_of_ble_eq_true rfl) ⟨rfl, rfl, rfl, trivial⟩ ?_
        refine j_aload_n (p2 := 87) dT_weighIntoFirst_86 rfl rfl ?_
        refine j_getR (p2 := 90) dT_weighIntoFirst_87 rfl fa_T_37 ly_56 rfl ?_
        refine j_iload_n (p2 := 91) dT_weighIntoFirst_90 rfl rfl ?_
        refine j_aload_n (p2 := 92) dT_weighIntoFirst_91 rfl rfl ?_
        refine j_dload_n (p2 := 93) dT_weighIntoFirst_92 rfl rfl ?_
        refine j_ldc2d (p2 := 96) dT_weighIntoFirst_93 rfl cw_T_132 ?_
        refine j_ddiv (p2 := 97) dT_weighIntoFirst_96 rfl (by rw [c6]; exact n6) ?_
        refine j_callV (m' := mT_rounded) (As := [_]) (p2 := 100) dT_weighIntoFirst_97 rfl ml_T_74 ok_mT_rounded im_mT_rounded se_mT_rounded rfl rfl (Nat.le_of_ble_eq_true rfl) ly_56 rfl (Nat.le_of_ble_eq_true rfl) ⟨(Nat.le_of_ble_eq_true rfl), (Nat.le_of_ble_eq_true rfl)⟩ ?_
        refine cTt_rounded efl (by rw [c6]; exact n6) ?_
        rw [c6, x6]
        refine j_dastk (p2 := 101) dT_weighIntoFirst_100 rfl ly_65 (by decide) (by omega) (by omega) ?_
        refine j_iinc (p2 := 104) (lv' := [(0, _), (1, _)]) dT_weighIntoFirst_101 rfl (Nat.le_of_ble_eq_true rfl) rfl ⟨rfl, rfl, trivial⟩ ?_
        refine j_goto (p2 := 2) dT_weighIntoFirst_104 (by decide) ?_
        refine J.loc (lv' := [(0, _), (1, _)]) ⟨rfl, rfl, trivial⟩ ?_
        exact hy
      refine j_iload_n (p2 := 3) dT_weighIntoFirst_2 rfl rfl ?_
      refine j_aload_n (p2 := 4) dT_weighIntoFirst_3 rfl rfl ?_
      refine j_getR (p2 := 7) dT_weighIntoFirst_4 rfl fa_T_49 ly_56 rfl ?_
      refine j_getIk (p2 := 10) dT_weighIntoFirst_7 rfl fa_T_65 ly_3 rfl (ki := 0) rfl ?_
      refine j_icmp_ge (p2 := 13) (tg := 107) dT_weighIntoFirst_10 rfl (by decide) (by constructor <;> omega) (by rw [eN]; constructor <;> omega) (fun h10 => ?_) (fun h10 => ?_)
      · refine j_return dT_weighIntoFirst_107 rfl (by rw [eN] at h10; have e : i = N := (by omega); subst e; rw [hτ]; exact hQ a ha)
      · refine j_aload_n (p2 := 14) dT_weighIntoFirst_13 rfl rfl ?_
        refine j_getR (p2 := 17) dT_weighIntoFirst_14 rfl fa_T_49 ly_56 rfl ?_
        refine j_getR (p2 := 20) dT_weighIntoFirst_17 rfl fa_T_119 ly_3 rfl ?_
        refine j_iload_n (p2 := 21) dT_weighIntoFirst_20 rfl rfl ?_
        refine j_iald (p2 := 22) dT_weighIntoFirst_21 rfl ly_4 (by decide) (by omega) (by rw [eN] at h10; omega) ?_
        refine j_iconst (p2 := 23) dT_weighIntoFirst_22 rfl ?_
        refine j_icmp_ne (p2 := 26) (tg := 101) dT_weighIntoFirst_23 rfl (by decide) (by rw [eN] at h10; rw [eK]; have := kb (by omega); constructor <;> omega) (by constructor <;> omega) (fun h23 => ?_) (fun h23 => ?_)
        · refine j_iinc (p2 := 104) (lv' := [(0, _), (1, _)]) dT_weighIntoFirst_101 rfl (Nat.le_of_ble_eq_true rfl) rfl ⟨rfl, rfl, trivial⟩ ?_
          refine j_goto (p2 := 2) dT_weighIntoFirst_104 (by decide) ?_
          refine J.loc (lv' := [(0, _), (1, _)]) ⟨rfl, rfl, trivial⟩ ?_
          have g : ¬ hI σ 4 i = 2 := by rw [← eK]; exact h23
          rw [eN] at h10
          exact no (by omega) g
        · refine J.loc (lv' := [(0, _), (1, _)]) ⟨rfl, rfl, trivial⟩ ?_
          rw [eN] at h10
          have g : hI σ 4 i = 2 := by rw [← eK]; exact h23
          exact step (by omega) g
  have start := loop (N + 1) 0 (by omega) (by omega) (hD σ 65) (fun m x y => absurd y (by omega)) (fun m x y => rfl)
  rw [wD_id] at start
  refine j_iconst (p2 := 1) dT_weighIntoFirst_0 rfl ?_
  refine j_istore_n (p2 := 2) (lv' := [(0, _), (1, _)]) dT_weighIntoFirst_1 rfl (Nat.le_of_ble_eq_true rfl) ⟨rfl, rfl, trivial⟩ ?_
  refine J.loc (lv' := [(0, _), (1, _)]) ⟨rfl, rfl, trivial⟩ ?_
  exact start
end TWC6
