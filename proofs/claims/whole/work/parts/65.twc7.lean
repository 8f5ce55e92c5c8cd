/-! ===== the class's twins: what comes, what is remembered ===== -/
/-- place j of a ring of n places whose oldest is at o -/
def rix (o j n : Int) : Int := if o + j < n then o + j else o + j - n
theorem rix_b {o j n : Int} (h0 : 0 ≤ o) (h1 : o < n) (h2 : 0 ≤ j) (h3 : j < n) : 0 ≤ rix o j n ∧ rix o j n < n := by
  unfold rix; split <;> omega
/-- o + 1 is below the setting just if it is below n -/
abbrev SCmp (s : UInt64) (n : Int) : Prop := ∀ o : Int, 0 ≤ o → o < 16 → (FP.dcmp (FP.i2d (iw (o + 1))) s = some .lt ↔ o + 1 < n)
abbrev PatW (σ : Hp) (fr : Int → Int) (N : Nat) : Prop := ∀ m : Int, 0 ≤ m → m < N → (hI σ 4 m = 9 → ¬ fr (6 * m + 2) = -1) ∧ (hI σ 4 m = 7 → TbR (hI σ 11 m) (hD σ 12) (hD σ 13) m) ∧ (hI σ 4 m = 3 → ¬ fr (6 * m + 0) = -1 ∧ ¬ fr (6 * m + 1) = -1) ∧ (hI σ 4 m = 11 → ¬ fr (6 * m + 0) = -1)
def zcD (s : Int) : UInt64 := nz s
def zcF (s : Int) : UInt32 := FP.d2f (nz s)
theorem zcD_bd (s : Int) : BdD (zcD s) := mg_15 (nz_15 s)
theorem zcF_bd (s : Int) : BdF (zcF s) := mf_15 (d2f_15 (nz_15 s))
theorem zcD_cv (s : Int) : rndC false (nz s) = cvD (zcD s) := rfl
theorem zcF_cv (s : Int) : rndC true (nz s) = cvF (zcF s) := rfl
/-- the ring R, O holds row m of rw, oldest first -/
abbrev RgXD (R : Int → UInt64) (O nn : Int → Int) (row : Int → UInt64) (m : Int) : Prop := (1 ≤ nn m ∧ nn m ≤ 16) ∧ (0 ≤ O m ∧ O m < nn m) ∧ ∀ j : Int, 0 ≤ j → j < nn m → R (m * 16 + rix (O m) j (nn m)) = cvD (row (16 * m + j)) ∧ BdD (row (16 * m + j))
theorem rg_newD {R : Int → UInt64} {O nn kd : Int → Int} {row nx : Int → UInt64} {m : Int} {N : Nat} (h : RgXD R O nn row m) (hm : 0 ≤ m ∧ m < N) (hk : kd m = 11) (hb : BdD (nx m)) {o : Int} (ho : o = if O m + 1 < nn m then O m + 1 else 0) : RgXD (fup R (m * 16 + O m) (cvD (nx m))) (fup O m o) nn (pw row (rowS kd nn row nx) (16 * N)) m := by
  obtain ⟨h1, h2, h3⟩ := h
  refine ⟨h1, ?_, fun j j0 j1 => ?_⟩
  · rw [fup_s, ho]; split <;> omega
  · rw [fup_s, pw_lo (by omega) (by omega)]
    unfold rowS
    have e : (16 * m + j) / 16 = m := by omega
    rw [e, if_pos hk]
    unfold shf
    by_cases g : j < nn m - 1
    · rw [if_pos (by omega)]
      have hne : ¬ m * 16 + rix o j (nn m) = m * 16 + O m := by
        unfold rix
        rw [ho]
        split <;> split <;> omega
      rw [fup_n hne]
      have e2 : rix o j (nn m) = rix (O m) (j + 1) (nn m) := by
        unfold rix
        rw [ho]
        split <;> split <;> split <;> omega
      rw [e2, show 16 * m + j + 1 = 16 * m + (j + 1) by omega]
      exact h3 (j + 1) (by omega) (by omega)
    · rw [if_neg (by omega), if_pos (by omega)]
      have e2 : rix o j (nn m) = O m := by
        unfold rix
        rw [ho]
        split <;> split <;> omega
      rw [e2, fup_s]
      exact ⟨rfl, hb⟩
theorem rg_othD {R : Int → UInt64} {O nn : Int → Int} {row : Int → UInt64} {m m2 : Int} {v : UInt64} {o : Int} (h : RgXD R O nn row m) (hne : ¬ m = m2) (h2 : 0 ≤ O m2 ∧ O m2 < 16) : RgXD (fup R (m2 * 16 + O m2) v) (fup O m2 o) nn row m := by
  obtain ⟨g1, g2, g3⟩ := h
  refine ⟨g1, ?_, fun j j0 j1 => ?_⟩
  · rw [fup_n hne]; exact g2
  · rw [fup_n hne]
    have := rix_b g2.1 g2.2 j0 j1
    rw [fup_n (by omega)]
    exact g3 j j0 j1
/-- the ring R, O holds row m of rw, oldest first -/
abbrev RgXF (R : Int → UInt64) (O nn : Int → Int) (row : Int → UInt32) (m : Int) : Prop := (1 ≤ nn m ∧ nn m ≤ 16) ∧ (0 ≤ O m ∧ O m < nn m) ∧ ∀ j : Int, 0 ≤ j → j < nn m → R (m * 16 + rix (O m) j (nn m)) = cvF (row (16 * m + j)) ∧ BdF (row (16 * m + j))
theorem rg_newF {R : Int → UInt64} {O nn kd : Int → Int} {row nx : Int → UInt32} {m : Int} {N : Nat} (h : RgXF R O nn row m) (hm : 0 ≤ m ∧ m < N) (hk : kd m = 11) (hb : BdF (nx m)) {o : Int} (ho : o = if O m + 1 < nn m then O m + 1 else 0) : RgXF (fup R (m * 16 + O m) (cvF (nx m))) (fup O m o) nn (pw row (rowS kd nn row nx) (16 * N)) m := by
  obtain ⟨h1, h2, h3⟩ := h
  refine ⟨h1, ?_, fun j j0 j1 => ?_⟩
  · rw [fup_s, ho]; split <;> omega
  · rw [fup_s, pw_lo (by omega) (by omega)]
    unfold rowS
    have e : (16 * m + j) / 16 = m := by omega
    rw [e, if_pos hk]
    unfold shf
    by_cases g : j < nn m - 1
    · rw [if_pos (by omega)]
      have hne : ¬ m * 16 + rix o j (nn m) = m * 16 + O m := by
        unfold rix
        rw [ho]
        split <;> split <;> omega
      rw [fup_n hne]
      have e2 : rix o j (nn m) = rix (O m) (j + 1) (nn m) := by
        unfold rix
        rw [ho]
        split <;> split <;> split <;> omega
      rw [e2, show 16 * m + j + 1 = 16 * m + (j + 1) by omega]
      exact h3 (j + 1) (by omega) (by omega)
    · rw [if_neg (by omega), if_pos (by omega)]
      have e2 : rix o j (nn m) = O m := by
        unfold rix
        rw [ho]
        split <;> split <;> omega
      rw [e2, fup_s]
      exact ⟨rfl, hb⟩
theorem rg_othF {R : Int → UInt64} {O nn : Int → Int} {row : Int → UInt32} {m m2 : Int} {v : UInt64} {o : Int} (h : RgXF R O nn row m) (hne : ¬ m = m2) (h2 : 0 ≤ O m2 ∧ O m2 < 16) : RgXF (fup R (m2 * 16 + O m2) v) (fup O m2 o) nn row m := by
  obtain ⟨g1, g2, g3⟩ := h
  refine ⟨g1, ?_, fun j j0 j1 => ?_⟩
  · rw [fup_n hne]; exact g2
  · rw [fup_n hne]
    have := rix_b g2.1 g2.2 j0 j1
    rw [fup_n (by omega)]
    exact g3 j j0 j1
section TWC7
variable {σ : Hp} {Q : Option PV → Hp → Prop}
theorem cTd_keepComing {fr : Int → Int} {r st : Int → UInt64} {N : Nat} (hc : CtI σ fr N) (hr : Rdd σ r N) (hst : ∀ m : Int, 0 ≤ m → m < N → hD σ 24 m = cvD (st m) ∧ BdD (st m)) (hp : PatW σ fr N)
    (hQ : ∀ a, (∀ m : Int, 0 ≤ m → m < N → hI σ 4 m = 3 ∨ hI σ 4 m = 11 → a m = cvD (gnx arD (hI σ 4) fr (hI σ 10) r st m) ∧ BdD (gnx arD (hI σ 4) fr (hI σ 10) r st m)) → Q none (wD σ 29 a)) : Sp mT_keepComing [vR 21] σ Q := by
  have hN := hc.1
  have hN2 := hc.2.1
  have loop : ∀ (n i : Nat), i ≤ N → N + 1 ≤ i + n → ∀ a, (∀ m : Int, 0 ≤ m → m < i → hI σ 4 m = 3 ∨ hI σ 4 m = 11 → a m = cvD (gnx arD (hI σ 4) fr (hI σ 10) r st m) ∧ BdD (gnx arD (hI σ 4) fr (hI σ 10) r st m)) → J mT_keepComing 2 [(0, vR 21), (1, vI i)] [] (wD σ 29 a) Q := by
    intro n
    induction n with
    | zero => intro i h1 h2; exact absurd h2 (by omega)
    | succ n ih =>
      intro i i1 i2 a ha
      obtain ⟨τ, hτ⟩ : ∃ τ, τ = wD σ 29 a := ⟨_, rfl⟩
      have eN : hI τ 3 0 = N := by rw [hτ]; exact hN
      have eK : hI τ 4 = hI σ 4 := by rw [hτ]; rfl
      have eC : hD τ 29 = a := by rw [hτ]; rfl
      have eS : hD τ 24 = hD σ 24 := by rw [hτ]; rfl
      have e10 : hI τ 10 = hI σ 10 := by rw [hτ]; rfl
      have hcτ : CtI τ fr N := by rw [hτ]; exact hc
      have hrτ : Rdd τ r N := by rw [hτ]; exact hr
      have kb : i < N → 0 ≤ hI σ 4 i ∧ hI σ 4 i < 14 := fun h => hc.2.2.1 i (by omega) (by omega)
      have hgi : i < N → ∀ j : Int, 0 ≤ j → j < 6 → ¬ fr (6 * i + j) = -1 → ga arD fr (hI σ 10) r i j = gin arD fr (hI σ 10) r i j ∧ BdD (gin arD fr (hI σ 10) r i j) := fun z j j0 j1 g => by
        have e : ga arD fr (hI σ 10) r i j = gin arD fr (hI σ 10) r i j := if_neg g
        refine ⟨e, ?_⟩
        rw [← e]
        exact ga_bdD (hc.2.2.2 i j (by omega) (by omega) j0 j1).2.1 (fun k x y => (hr k x y).2)
      have no : i < N → ¬ hI σ 4 i = 3 → ¬ hI σ 4 i = 11 → J mT_keepComing 2 [(0, vR 21), (1, vI (i + 1))] [] τ Q := fun z g g2 => by
        rw [hτ]
        exact ih (i + 1) (by omega) (by omega) a (fun m x y w => by
          by_cases e : m = i
          · subst e; rcases w with w | w
            · exact absurd w g
            · exact absurd w g2
          · exact ha m x (by omega) w)
      have yes : i < N → ∀ y, y = gnx arD (hI σ 4) fr (hI σ 10) r st i → BdD y → J mT_keepComing 2 [(0, vR 21), (1, vI (i + 1))] [] (wD τ 29 (fup (hD τ 29) i (cvD y))) Q := fun z y hy hb => by
        rw [eC, hτ, wD_wD]
        refine ih (i + 1) (by omega) (by omega) _ (fun m x y0 w => ?_)
        by_cases e : m = i
        · subst e; rw [fup_s, ← hy]; exact ⟨rfl, hb⟩
        · rw [fup_n e]; exact ha m x (by omega) w
      clear ih
      rw [← hτ]
      have hpi : i < N → _ := fun z => hp i (by omega) (by omega)
      have trk : i < N → hI σ 4 i = 3 → J mT_keepComing 26 [(0, vR 21), (1, vI i)] [] τ Q := by
        intro z g
        obtain ⟨f0, f1⟩ := (hpi z).2.2.1 g
        obtain ⟨a0, b0⟩ := hgi z 0 (by omega) (by omega) f0
        obtain ⟨a1, b1⟩ := hgi z 1 (by omega) (by omega) f1
        obtain ⟨s1, s2⟩ := hst i (by omega) (by omega)
        have c1 := cmp0D (bd_nnD b1)
        have gx : gnx arD (hI σ 4) fr (hI σ 10) r st i = if Acm arD (gin arD fr (hI σ 10) r i 1) (Ac arD 0) = some .gt then gin arD fr (hI σ 10) r i 0 else st i := if_pos g
        have y1 : Acm arD (gin arD fr (hI σ 10) r i 1) (Ac arD 0) = some .gt → J mT_keepComing 2 [(0, vR 21), (1, vI (i + 1))] [] (wD τ 29 (fup (hD τ 29) i (cvD (gin arD fr (hI σ 10) r i 0)))) Q := fun w => yes z _ (by rw [gx, if_pos w]) b0
        have y2 : ¬ Acm arD (gin arD fr (hI σ 10) r i 1) (Ac arD 0) = some .gt → J mT_keepComing 2 [(0, vR 21), (1, vI (i + 1))] [] (wD τ 29 (fup (hD τ 29) i (hD τ 24 i))) Q := fun w => by
          rw [eS, s1]
          exact yes z _ (by rw [gx, if_neg w]) s2
        refine j_aload_n (p2 := 27) dT_keepComing_26 rfl rfl ?_
        refine j_getR (p2 := 30) dT_keepComing_27 rfl fa_T_34 ly_21 rfl ?_
        refine j_iload_n (p2 := 31) dT_keepComing_30 rfl rfl ?_
        refine j_aload_n (p2 := 32) dT_keepComing_31 rfl rfl ?_
        refine j_iload_n (p2 := 33) dT_keepComing_32 rfl rfl ?_
        refine j_iconst (p2 := 34) dT_keepComing_33 rfl ?_
        refine j_callV (m' := mT_in) (As := [_, _]) (p2 := 37) dT_keepComing_34 rfl ml_T_134 ok_mT_in im_mT_in se_mT_in rfl rfl (Nat.le_of_ble_eq_true rfl) ly_21 rfl (Nat.le_of_ble_eq_true rfl) ⟨(Nat.le_of_ble_eq_true rfl), (Nat.le_of_ble_eq_true rfl)⟩ ?_
        refine cTd_in hcτ (by omega) (by omega) hrτ ?_
        rw [e10, a1]
        refine j_dconst0 (p2 := 38) dT_keepComing_37 rfl ?_
        refine j_dcmp_l_le (p1 := 39) (p2 := 42) (tg := 51) dT_keepComing_38 rfl dT_keepComing_39 rfl (by decide) (fun h38 => ?_) (fun h38 => ?_)
        · refine j_aload_n (p2 := 52) dT_keepComing_51 rfl rfl ?_
          refine j_getR (p2 := 55) dT_keepComing_52 rfl fa_T_18 ly_21 rfl ?_
          refine j_iload_n (p2 := 56) dT_keepComing_55 rfl rfl ?_
          refine j_dald (p2 := 57) dT_keepComing_56 rfl ly_24 (by decide) (by omega) (by omega) ?_
          refine j_dastk (p2 := 58) dT_keepComing_57 rfl ly_29 (by decide) (by omega) (by omega) ?_
          refine j_goto (p2 := 87) dT_keepComing_58 (by decide) ?_
          refine j_iinc (p2 := 90) (lv' := [(0, _), (1, _)]) dT_keepComing_87 rfl (Nat.le_of_ble_eq_true rfl) rfl ⟨rfl, rfl, trivial⟩ ?_
          refine j_goto (p2 := 2) dT_keepComing_90 (by decide) ?_
          refine J.loc (lv' := [(0, _), (1, _)]) ⟨rfl, rfl, trivial⟩ ?_
          rw [c1] at h38
          first
            | (have w : Acm arD (gin arD fr (hI σ 10) r i 1) (Ac arD 0) = some .gt := h38
               exact y1 w)
            | (have w : ¬ Acm arD (gin arD fr (hI σ 10) r i 1) (Ac arD 0) = some .gt := h38
               exact y2 w)
        · refine j_aload_n (p2 := 43) dT_keepComing_42 rfl rfl ?_
          refine j_iload_n (p2 := 44) dT_keepComing_43 rfl rfl ?_
          refine j_iconst (p2 := 45) dT_keepComing_44 rfl ?_
          refine j_callV (m' := mT_in) (As := [_, _]) (p2 := 48) dT_keepComing_45 rfl ml_T_134 ok_mT_in im_mT_in se_mT_in rfl rfl (Nat.le_of_ble_eq_true rfl) ly_21 rfl (Nat.le_of_ble_eq_true rfl) ⟨(Nat.le_of_ble_eq_true rfl), (Nat.le_of_ble_eq_true rfl)⟩ ?_
          refine cTd_in hcτ (by omega) (by omega) hrτ ?_
          rw [e10, a0]
          refine j_goto (p2 := 57) dT_keepComing_48 (by decide) ?_
          refine j_dastk (p2 := 58) dT_keepComing_57 rfl ly_29 (by decide) (by omega) (by omega) ?_
          refine j_goto (p2 := 87) dT_keepComing_58 (by decide) ?_
          refine j_iinc (p2 := 90) (lv' := [(0, _), (1, _)]) dT_keepComing_87 rfl (Nat.le_of_ble_eq_true rfl) rfl ⟨rfl, rfl, trivial⟩ ?_
          refine j_goto (p2 := 2) dT_keepComing_90 (by decide) ?_
          refine J.loc (lv' := [(0, _), (1, _)]) ⟨rfl, rfl, trivial⟩ ?_
          rw [c1] at h38
          first
            | (have w : Acm arD (gin arD fr (hI σ 10) r i 1) (Ac arD 0) = some .gt := h38
               exact y1 w)
            | (have w : ¬ Acm arD (gin arD fr (hI σ 10) r i 1) (Ac arD 0) = some .gt := h38
               exact y2 w)
      have dly : i < N → hI σ 4 i = 11 → J mT_keepComing 75 [(0, vR 21), (1, vI i)] [] τ Q := by
        intro z g
        obtain ⟨a0, b0⟩ := hgi z 0 (by omega) (by omega) ((hpi z).2.2.2 g)
        have y1 := yes z (gin arD fr (hI σ 10) r i 0) (by unfold gnx; rw [if_neg (by omega)]) b0
        refine j_aload_n (p2 := 76) dT_keepComing_75 rfl rfl ?_
        refine j_getR (p2 := 79) dT_keepComing_76 rfl fa_T_34 ly_21 rfl ?_
        refine j_iload_n (p2 := 80) dT_keepComing_79 rfl rfl ?_
        refine j_aload_n (p2 := 81) dT_keepComing_80 rfl rfl ?_
        refine j_iload_n (p2 := 82) dT_keepComing_81 rfl rfl ?_
        refine j_iconst (p2 := 83) dT_keepComing_82 rfl ?_
        refine j_callV (m' := mT_in) (As := [_, _]) (p2 := 86) dT_keepComing_83 rfl ml_T_134 ok_mT_in im_mT_in se_mT_in rfl rfl (Nat.le_of_ble_eq_true rfl) ly_21 rfl (Nat.le_of_ble_eq_true rfl) ⟨(Nat.le_of_ble_eq_true rfl), (Nat.le_of_ble_eq_true rfl)⟩ ?_
        refine cTd_in hcτ (by omega) (by omega) hrτ ?_
        rw [e10, a0]
        refine j_dastk (p2 := 87) dT_keepComing_86 rfl ly_29 (by decide) (by omega) (by omega) ?_
        refine j_iinc (p2 := 90) (lv' := [(0, _), (1, _)]) dT_keepComing_87 rfl (Nat.le_of_ble_eq_true rfl) rfl ⟨rfl, rfl, trivial⟩ ?_
        refine j_goto (p2 := 2) dT_keepComing_90 (by decide) ?_
        refine J.loc (lv' := [(0, _), (1, _)]) ⟨rfl, rfl, trivial⟩ ?_
        exact y1
      refine j_iload_n (p2 := 3) dT_keepComing_2 rfl rfl ?_
      refine j_aload_n (p2 := 4) dT_keepComing_3 rfl rfl ?_
      refine j_getR (p2 := 7) dT_keepComing_4 rfl fa_T_49 ly_21 rfl ?_
      refine j_getIk (p2 := 10) dT_keepComing_7 rfl fa_T_65 ly_3 rfl (ki := 0) rfl ?_
      refine j_icmp_ge (p2 := 13) (tg := 93) dT_keepComing_10 rfl (by decide) (by constructor <;> omega) (by rw [eN]; constructor <;> omega) (fun h10 => ?_) (fun h10 => ?_)
      · refine j_return dT_keepComing_93 rfl (by rw [eN] at h10; have e : i = N := (by omega); subst e; rw [hτ]; exact hQ a ha)
      · refine j_aload_n (p2 := 14) dT_keepComing_13 rfl rfl ?_
        refine j_getR (p2 := 17) dT_keepComing_14 rfl fa_T_49 ly_21 rfl ?_
        refine j_getR (p2 := 20) dT_keepComing_17 rfl fa_T_119 ly_3 rfl ?_
        refine j_iload_n (p2 := 21) dT_keepComing_20 rfl rfl ?_
        refine j_iald (p2 := 22) dT_keepComing_21 rfl ly_4 (by decide) (by omega) (by rw [eN] at h10; omega) ?_
        refine j_iconst (p2 := 23) dT_keepComing_22 rfl ?_
        refine j_icmp_ne (p2 := 26) (tg := 61) dT_keepComing_23 rfl (by decide) (by rw [eN] at h10; rw [eK]; have := kb (by omega); constructor <;> omega) (by constructor <;> omega) (fun h23 => ?_) (fun h23 => ?_)
        · refine j_aload_n (p2 := 62) dT_keepComing_61 rfl rfl ?_
          refine j_getR (p2 := 65) dT_keepComing_62 rfl fa_T_49 ly_21 rfl ?_
          refine j_getR (p2 := 68) dT_keepComing_65 rfl fa_T_119 ly_3 rfl ?_
          refine j_iload_n (p2 := 69) dT_keepComing_68 rfl rfl ?_
          refine j_iald (p2 := 70) dT_keepComing_69 rfl ly_4 (by decide) (by omega) (by rw [eN] at h10; omega) ?_
          refine j_bipush (v := 11) (p2 := 72) dT_keepComing_70 rfl rfl ?_
          refine j_icmp_ne (p2 := 75) (tg := 87) dT_keepComing_72 rfl (by decide) (by rw [eN] at h10; rw [eK]; have := kb (by omega); constructor <;> omega) (by constructor <;> omega) (fun h72 => ?_) (fun h72 => ?_)
          · refine j_iinc (p2 := 90) (lv' := [(0, _), (1, _)]) dT_keepComing_87 rfl (Nat.le_of_ble_eq_true rfl) rfl ⟨rfl, rfl, trivial⟩ ?_
            refine j_goto (p2 := 2) dT_keepComing_90 (by decide) ?_
            refine J.loc (lv' := [(0, _), (1, _)]) ⟨rfl, rfl, trivial⟩ ?_
            rw [eN] at h10
            rw [eK] at h23 h72
            exact no (by omega) h23 h72
          · refine J.loc (lv' := [(0, _), (1, _)]) ⟨rfl, rfl, trivial⟩ ?_
            rw [eN] at h10
            have g : hI σ 4 i = 11 := by rw [← eK]; exact h72
            exact dly (by omega) g
        · refine J.loc (lv' := [(0, _), (1, _)]) ⟨rfl, rfl, trivial⟩ ?_
          rw [eN] at h10
          have g : hI σ 4 i = 3 := by rw [← eK]; exact h23
          exact trk (by omega) g
  have start := loop (N + 1) 0 (by omega) (by omega) (hD σ 29) (fun m x y => absurd y (by omega))
  rw [wD_id] at start
  refine j_iconst (p2 := 1) dT_keepComing_0 rfl ?_
  refine j_istore_n (p2 := 2) (lv' := [(0, _), (1, _)]) dT_keepComing_1 rfl (Nat.le_of_ble_eq_true rfl) ⟨rfl, rfl, trivial⟩ ?_
  refine J.loc (lv' := [(0, _), (1, _)]) ⟨rfl, rfl, trivial⟩ ?_
  exact start
def rmd (σ : Hp) (S R : Int → UInt64) (O D : Int → Int) : Hp := wI (wI (wD (wD σ 24 S) 25 R) 26 O) 27 D
theorem rmd_1 {S S' R : Int → UInt64} {O D : Int → Int} : wD (rmd σ S R O D) 24 S' = rmd σ S' R O D := by
  unfold rmd
  apply hp_ext <;> intro x <;> simp only [hI_wI, hI_wL, hI_wF, hI_wD, hL_wI, hL_wL, hL_wF, hL_wD, hF_wI, hF_wL, hF_wF, hF_wD, hD_wI, hD_wL, hD_wF, hD_wD]
  by_cases h1 : x = 24 <;> by_cases h2 : x = 25 <;> simp_all
theorem rmd_2 {S R R' : Int → UInt64} {O O' D : Int → Int} : wI (wD (rmd σ S R O D) 25 R') 26 O' = rmd σ S R' O' D := by
  unfold rmd
  apply hp_ext <;> intro x <;> simp only [hI_wI, hI_wL, hI_wF, hI_wD, hL_wI, hL_wL, hL_wF, hL_wD, hF_wI, hF_wL, hF_wF, hF_wD, hD_wI, hD_wL, hD_wF, hD_wD]
  · by_cases h1 : x = 26 <;> by_cases h2 : x = 27 <;> simp_all
  · by_cases h1 : x = 24 <;> by_cases h2 : x = 25 <;> simp_all
theorem rmd_3 {S S' R : Int → UInt64} {O D D' : Int → Int} : wD (wI (rmd σ S R O D) 27 D') 24 S' = rmd σ S' R O D' := by
  unfold rmd
  apply hp_ext <;> intro x <;> simp only [hI_wI, hI_wL, hI_wF, hI_wD, hL_wI, hL_wL, hL_wF, hL_wD, hF_wI, hF_wL, hF_wF, hF_wD, hD_wI, hD_wL, hD_wF, hD_wD]
  · by_cases h1 : x = 26 <;> by_cases h2 : x = 27 <;> simp_all
  · by_cases h1 : x = 24 <;> by_cases h2 : x = 25 <;> simp_all
theorem rmd_0 : rmd σ (hD σ 24) (hD σ 25) (hI σ 26) (hI σ 27) = σ := by
  unfold rmd
  rw [wD_id, wD_id, wI_id, wI_id]
theorem cTd_remember {fr : Int → Int} {st nx row : Int → UInt64} {nn sd : Int → Int} {N : Nat} (hc : CtI σ fr N) (hfl : hI σ 21 3 = 0) (hst : ∀ m : Int, 0 ≤ m → m < N → hD σ 24 m = cvD (st m) ∧ BdD (st m)) (hco : ∀ m : Int, 0 ≤ m → m < N → hI σ 4 m = 3 ∨ hI σ 4 m = 11 → hD σ 29 m = cvD (nx m) ∧ BdD (nx m)) (hrg : ∀ m : Int, 0 ≤ m → m < N → hI σ 4 m = 11 → RgXD (hD σ 25) (hI σ 26) nn row m ∧ SCmp (hD σ 23 m) (nn m)) (hsd : ∀ m : Int, 0 ≤ m → m < N → hI σ 4 m = 13 → hI σ 27 m = sd m)
    (hQ : ∀ S R O D, (∀ m : Int, 0 ≤ m → m < N → S m = cvD (pw st (othS (hI σ 4) nx st (fun m => zcD (sdS (hI σ 4) sd m))) N m) ∧ BdD (pw st (othS (hI σ 4) nx st (fun m => zcD (sdS (hI σ 4) sd m))) N m)) → (∀ m : Int, 0 ≤ m → m < N → hI σ 4 m = 11 → RgXD R O nn (pw row (rowS (hI σ 4) nn row nx) (16 * N)) m) → (∀ m : Int, 0 ≤ m → m < N → hI σ 4 m = 13 → D m = pw sd (sdS (hI σ 4) sd) N m) → Q none (rmd σ S R O D)) : Sp mT_remember [vR 21] σ Q := by
  have hN := hc.1
  have hN2 := hc.2.1
  have loop : ∀ (n i : Nat), i ≤ N → N + 1 ≤ i + n → ∀ S R O D, (∀ m : Int, 0 ≤ m → m < N → S m = cvD (pw st (othS (hI σ 4) nx st (fun m => zcD (sdS (hI σ 4) sd m))) i m) ∧ BdD (pw st (othS (hI σ 4) nx st (fun m => zcD (sdS (hI σ 4) sd m))) i m)) → (∀ m : Int, 0 ≤ m → m < N → hI σ 4 m = 11 → (m < i → RgXD R O nn (pw row (rowS (hI σ 4) nn row nx) (16 * N)) m) ∧ (i ≤ m → RgXD R O nn row m)) → (∀ m : Int, 0 ≤ m → m < N → hI σ 4 m = 13 → D m = pw sd (sdS (hI σ 4) sd) i m) → J mT_remember 2 [(0, vR 21), (1, vI i)] [] (rmd σ S R O D) Q := by
    intro n
    induction n with
    | zero => intro i h1 h2; exact absurd h2 (by omega)
    | succ n ih =>
      intro i i1 i2 S R O D hS hR hD_
      obtain ⟨τ, hτ⟩ : ∃ τ, τ = rmd σ S R O D := ⟨_, rfl⟩
      have eN : hI τ 3 0 = N := by rw [hτ]; exact hN
      have eK : hI τ 4 = hI σ 4 := by rw [hτ]; rfl
      have eC : hD τ 29 = hD σ 29 := by rw [hτ]; rfl
      have eE : hD τ 23 = hD σ 23 := by rw [hτ]; rfl
      have eS : hD τ 24 = S := by rw [hτ]; rfl
      have eR : hD τ 25 = R := by rw [hτ]; rfl
      have eO : hI τ 26 = O := by rw [hτ]; rfl
      have eD : hI τ 27 = D := by rw [hτ]; rfl
      have efl : hI τ 21 3 = 0 := by rw [hτ]; exact hfl
      have kb : i < N → 0 ≤ hI σ 4 i ∧ hI σ 4 i < 14 := fun h => hc.2.2.1 i (by omega) (by omega)
      have kpS : ¬ hI σ 4 i = 3 → ¬ hI σ 4 i = 13 → pw st (othS (hI σ 4) nx st (fun m => zcD (sdS (hI σ 4) sd m))) (i + 1) = pw st (othS (hI σ 4) nx st (fun m => zcD (sdS (hI σ 4) sd m))) i := fun g g2 => pw_k2 (by unfold othS; rw [if_neg g, if_neg g2])
      have kpD : ¬ hI σ 4 i = 13 → pw sd (sdS (hI σ 4) sd) (i + 1) = pw sd (sdS (hI σ 4) sd) i := fun g => pw_k2 (by unfold sdS; rw [if_neg g])
      have kpR : ¬ hI σ 4 i = 11 → ∀ m : Int, 0 ≤ m → m < N → hI σ 4 m = 11 → (m < ((i + 1 : Nat) : Int) → RgXD R O nn (pw row (rowS (hI σ 4) nn row nx) (16 * N)) m) ∧ (((i + 1 : Nat) : Int) ≤ m → RgXD R O nn row m) := fun g m x y w => by
        refine ⟨fun q => ?_, fun q => (hR m x y w).2 (by omega)⟩
        by_cases e : m = i
        · subst e; exact absurd w g
        · exact (hR m x y w).1 (by omega)
      have no : i < N → ¬ hI σ 4 i = 3 → ¬ hI σ 4 i = 11 → ¬ hI σ 4 i = 13 → J mT_remember 2 [(0, vR 21), (1, vI (i + 1))] [] τ Q := fun z g g2 g3 => by
        rw [hτ]
        exact ih (i + 1) (by omega) (by omega) S R O D (fun m x y => by rw [kpS g g3]; exact hS m x y) (kpR g2) (fun m x y w => by rw [kpD g3]; exact hD_ m x y w)
      have trk : i < N → hI σ 4 i = 3 → J mT_remember 2 [(0, vR 21), (1, vI (i + 1))] [] (wD τ 24 (fup (hD τ 24) i (hD τ 29 i))) Q := fun z g => by
        obtain ⟨c1, c2⟩ := hco i (by omega) (by omega) (Or.inl g)
        rw [eS, eC, c1, hτ, rmd_1]
        refine ih (i + 1) (by omega) (by omega) _ R O D (fun m x y => ?_) (kpR (by omega)) (fun m x y w => by rw [kpD (by omega)]; exact hD_ m x y w)
        rw [← pw_s]
        have e1 : othS (hI σ 4) nx st (fun m => zcD (sdS (hI σ 4) sd m)) i = nx i := if_pos g
        rw [e1]
        unfold fup
        by_cases e : m = i
        · rw [if_pos e, if_pos e]; exact ⟨rfl, c2⟩
        · rw [if_neg e, if_neg e]; exact hS m x y
      have dly : i < N → hI σ 4 i = 11 → ∀ o, o = (if O i + 1 < nn i then O i + 1 else 0) → J mT_remember 2 [(0, vR 21), (1, vI (i + 1))] [] (wI (wD τ 25 (fup R (i * 16 + O i) (hD σ 29 i))) 26 (fup O i o)) Q := fun z g o ho => by
        obtain ⟨c1, c2⟩ := hco i (by omega) (by omega) (Or.inr g)
        rw [c1, hτ, rmd_2]
        have hRi := (hR i (by omega) (by omega) g).2 (by omega)
        have hO16 : 0 ≤ O i ∧ O i < 16 := by have := hRi.1; have := hRi.2.1; omega
        refine ih (i + 1) (by omega) (by omega) S _ _ D (fun m x y => by rw [kpS (by omega) (by omega)]; exact hS m x y) (fun m x y w => ⟨fun q => ?_, fun q => ?_⟩) (fun m x y w => by rw [kpD (by omega)]; exact hD_ m x y w)
        · by_cases e : m = i
          · subst e
            exact rg_newD hRi (by omega) g c2 ho
          · exact rg_othD ((hR m x y w).1 (by omega)) e hO16
        · exact rg_othD ((hR m x y w).2 (by omega)) (by omega) hO16
      have noi : i < N → hI σ 4 i = 13 → J mT_remember 2 [(0, vR 21), (1, vI (i + 1))] [] (wD (wI τ 27 (fup D i (1664525 * D i + 1013904223))) 24 (fup S i (rndC false (nz (1664525 * D i + 1013904223))))) Q := fun z g => by
        have hDi := hD_ i (by omega) (by omega) g
        rw [pw_at] at hDi
        have e2 : sdS (hI σ 4) sd i = 1664525 * D i + 1013904223 := by unfold sdS; rw [if_pos g, hDi]
        rw [zcD_cv, hτ, rmd_3]
        refine ih (i + 1) (by omega) (by omega) _ R O _ (fun m x y => ?_) (kpR (by omega)) (fun m x y w => ?_)
        · rw [← pw_s]
          have e1 : othS (hI σ 4) nx st (fun m => zcD (sdS (hI σ 4) sd m)) i = zcD (1664525 * D i + 1013904223) := by
            unfold othS
            rw [if_neg (by omega), if_pos g]
            show zcD (sdS (hI σ 4) sd i) = _
            rw [e2]
          rw [e1]
          unfold fup
          by_cases e : m = i
          · rw [if_pos e, if_pos e]; exact ⟨rfl, zcD_bd _⟩
          · rw [if_neg e, if_neg e]; exact hS m x y
        · rw [← pw_s, e2]
          unfold fup
          by_cases e : m = i
          · rw [if_pos e, if_pos e]
          · rw [if_neg e, if_neg e]; exact hD_ m x y w
      clear ih
      rw [← hτ]
      have at55 : i < N → hI σ 4 i = 11 → J mT_remember 55 [(0, vR 21), (1, vI i)] [] τ Q := by
        intro z g
        have hRi := (hR i (by omega) (by omega) g).2 (by omega)
        have hO16 : 0 ≤ O i ∧ O i < 16 := by have := hRi.1; have := hRi.2.1; omega
        have hsc := (hrg i (by omega) (by omega) g).2 (O i) (by omega) (by omega)
        have eO2 : ∀ x, hI (wD τ 25 x) 26 = O := fun x => eO
        have eE2 : ∀ x, hD (wD τ 25 x) 23 = hD σ 23 := fun x => eE
        refine j_aload_n (p2 := 56) dT_remember_55 rfl rfl ?_
        refine j_getR (p2 := 59) dT_remember_56 rfl fa_T_21 ly_21 rfl ?_
        refine j_iload_n (p2 := 60) dT_remember_59 rfl rfl ?_
        refine j_bipush (v := 16) (p2 := 62) dT_remember_60 rfl rfl ?_
        refine j_imul (p2 := 63) dT_remember_62 rfl ?_
        refine j_aload_n (p2 := 64) dT_remember_63 rfl rfl ?_
        refine j_getR (p2 := 67) dT_remember_64 rfl fa_T_24 ly_21 rfl ?_
        refine j_iload_n (p2 := 68) dT_remember_67 rfl rfl ?_
        refine j_iald (p2 := 69) dT_remember_68 rfl ly_26 (by decide) (by omega) (by omega) ?_
        refine j_iadd (p2 := 70) dT_remember_69 rfl ?_
        refine j_aload_n (p2 := 71) dT_remember_70 rfl rfl ?_
        refine j_getR (p2 := 74) dT_remember_71 rfl fa_T_34 ly_21 rfl ?_
        refine j_iload_n (p2 := 75) dT_remember_74 rfl rfl ?_
        refine j_dald (p2 := 76) dT_remember_75 rfl ly_29 (by decide) (by omega) (by omega) ?_
        refine j_dastk (p2 := 77) dT_remember_76 rfl ly_25 (by decide) (by rw [eO]; omega) (by rw [eO]; omega) ?_
        refine j_aload_n (p2 := 78) dT_remember_77 rfl rfl ?_
        refine j_getR (p2 := 81) dT_remember_78 rfl fa_T_24 ly_21 rfl ?_
        refine j_iload_n (p2 := 82) dT_remember_81 rfl rfl ?_
        refine j_aload_n (p2 := 83) dT_remember_82 rfl rfl ?_
        refine j_getR (p2 := 86) dT_remember_83 rfl fa_T_24 ly_21 rfl ?_
        refine j_iload_n (p2 := 87) dT_remember_86 rfl rfl ?_
        refine j_iald (p2 := 88) dT_remember_87 rfl ly_26 (by decide) (by omega) (by omega) ?_
        refine j_iconst (p2 := 89) dT_remember_88 rfl ?_
        refine j_iadd (p2 := 90) dT_remember_89 rfl ?_
        refine j_i2d (p2 := 91) dT_remember_90 rfl ?_
        refine j_aload_n (p2 := 92) dT_remember_91 rfl rfl ?_
        refine j_getR (p2 := 95) dT_remember_92 rfl fa_T_15 ly_21 rfl ?_
        refine j_iload_n (p2 := 96) dT_remember_95 rfl rfl ?_
        refine j_dald (p2 := 97) dT_remember_96 rfl ly_23 (by decide) (by omega) (by omega) ?_
        refine j_dcmp_g_ge (p1 := 98) (p2 := 101) (tg := 112) dT_remember_97 rfl dT_remember_98 rfl (by decide) (fun h97 => ?_) (fun h97 => ?_)
        · refine j_iconst (p2 := 113) dT_remember_112 rfl ?_
          refine j_iastk (p2 := 114) dT_remember_113 rfl ly_26 (by decide) (by omega) (by omega) ?_
          refine j_goto (p2 := 170) dT_remember_114 (by decide) ?_
          refine j_iinc (p2 := 173) (lv' := [(0, _), (1, _)]) dT_remember_170 rfl (Nat.le_of_ble_eq_true rfl) rfl ⟨rfl, rfl, trivial⟩ ?_
          refine j_goto (p2 := 2) dT_remember_173 (by decide) ?_
          refine J.loc (lv' := [(0, _), (1, _)]) ⟨rfl, rfl, trivial⟩ ?_
          rw [eO2, eE2] at h97
          rw [eO2, eR, eO, eC]
          first
            | (have w := hsc.mp h97
               exact dly z g _ (by rw [if_pos w]))
            | (have w : ¬ O i + 1 < nn i := fun q => h97 (hsc.mpr q)
               exact dly z g _ (by rw [if_neg w]))
        · refine j_aload_n (p2 := 102) dT_remember_101 rfl rfl ?_
          refine j_getR (p2 := 105) dT_remember_102 rfl fa_T_24 ly_21 rfl ?_
          refine j_iload_n (p2 := 106) dT_remember_105 rfl rfl ?_
          refine j_iald (p2 := 107) dT_remember_106 rfl ly_26 (by decide) (by omega) (by omega) ?_
          refine j_iconst (p2 := 108) dT_remember_107 rfl ?_
          refine j_iadd (p2 := 109) dT_remember_108 rfl ?_
          refine j_goto (p2 := 113) dT_remember_109 (by decide) ?_
          refine j_iastk (p2 := 114) dT_remember_113 rfl ly_26 (by decide) (by omega) (by omega) ?_
          refine j_goto (p2 := 170) dT_remember_114 (by decide) ?_
          refine j_iinc (p2 := 173) (lv' := [(0, _), (1, _)]) dT_remember_170 rfl (Nat.le_of_ble_eq_true rfl) rfl ⟨rfl, rfl, trivial⟩ ?_
          refine j_goto (p2 := 2) dT_remember_173 (by decide) ?_
          refine J.loc (lv' := [(0, _), (1, _)]) ⟨rfl, rfl, trivial⟩ ?_
          rw [eO2, eE2] at h97
          rw [eO2, eR, eO, eC]
          first
            | (have w := hsc.mp h97
               exact dly z g _ (by rw [if_pos w]))
            | (have w : ¬ O i + 1 < nn i := fun q => h97 (hsc.mpr q)
               exact dly z g _ (by rw [if_neg w]))
      have at131 : i < N → hI σ 4 i = 13 → J mT_remember 131 [(0, vR 21), (1, vI i)] [] τ Q := by
        intro z g
        have eD2 : ∀ x, hI (wI τ 27 x) 27 = x := fun x => rfl
        have eS2 : ∀ x, hD (wI τ 27 x) 24 = S := fun x => eS
        have hn := noi z g
        refine j_aload_n (p2 := 132) dT_remember_131 rfl rfl ?_
        refine j_getR (p2 := 135) dT_remember_132 rfl fa_T_28 ly_21 rfl ?_
        refine j_iload_n (p2 := 136) dT_remember_135 rfl rfl ?_
        refine j_ldc (p2 := 138) dT_remember_136 rfl cw_T_138 ?_
        refine j_aload_n (p2 := 139) dT_remember_138 rfl rfl ?_
        refine j_getR (p2 := 142) dT_remember_139 rfl fa_T_28 ly_21 rfl ?_
        refine j_iload_n (p2 := 143) dT_remember_142 rfl rfl ?_
        refine j_iald (p2 := 144) dT_remember_143 rfl ly_27 (by decide) (by omega) (by omega) ?_
        refine j_imul (p2 := 145) dT_remember_144 rfl ?_
        refine j_ldc (p2 := 147) dT_remember_145 rfl cw_T_139 ?_
        refine j_iadd (p2 := 148) dT_remember_147 rfl ?_
        refine j_iastk (p2 := 149) dT_remember_148 rfl ly_27 (by decide) (by omega) (by omega) ?_
        refine j_aload_n (p2 := 150) dT_remember_149 rfl rfl ?_
        refine j_getR (p2 := 153) dT_remember_150 rfl fa_T_18 ly_21 rfl ?_
        refine j_iload_n (p2 := 154) dT_remember_153 rfl rfl ?_
        refine j_aload_n (p2 := 155) dT_remember_154 rfl rfl ?_
        refine j_aload_n (p2 := 156) dT_remember_155 rfl rfl ?_
        refine j_getR (p2 := 159) dT_remember_156 rfl fa_T_28 ly_21 rfl ?_
        refine j_iload_n (p2 := 160) dT_remember_159 rfl rfl ?_
        refine j_iald (p2 := 161) dT_remember_160 rfl ly_27 (by decide) (by omega) (by omega) ?_
        refine j_i2d (p2 := 162) dT_remember_161 rfl ?_
        refine j_ldc2d (p2 := 165) dT_remember_162 rfl cw_T_140 ?_
        refine j_ddiv (p2 := 166) dT_remember_165 rfl (by rw [eD2, fup_s]; exact (mg_15 (nz_15 _)).nn (by decide)) ?_
        refine j_callV (m' := mT_rounded) (As := [_]) (p2 := 169) dT_remember_166 rfl ml_T_74 ok_mT_rounded im_mT_rounded se_mT_rounded rfl rfl (Nat.le_of_ble_eq_true rfl) ly_21 rfl (Nat.le_of_ble_eq_true rfl) ⟨(Nat.le_of_ble_eq_true rfl), (Nat.le_of_ble_eq_true rfl)⟩ ?_
        rw [eD2, fup_s]
        refine cTd_rounded efl ((mg_15 (nz_15 _)).nn (by decide)) ?_
        refine j_dastk (p2 := 170) dT_remember_169 rfl ly_24 (by decide) (by omega) (by omega) ?_
        refine j_iinc (p2 := 173) (lv' := [(0, _), (1, _)]) dT_remember_170 rfl (Nat.le_of_ble_eq_true rfl) rfl ⟨rfl, rfl, trivial⟩ ?_
        refine j_goto (p2 := 2) dT_remember_173 (by decide) ?_
        refine J.loc (lv' := [(0, _), (1, _)]) ⟨rfl, rfl, trivial⟩ ?_
        rw [eS2, eD]
        exact hn
      refine j_iload_n (p2 := 3) dT_remember_2 rfl rfl ?_
      refine j_aload_n (p2 := 4) dT_remember_3 rfl rfl ?_
      refine j_getR (p2 := 7) dT_remember_4 rfl fa_T_49 ly_21 rfl ?_
      refine j_getIk (p2 := 10) dT_remember_7 rfl fa_T_65 ly_3 rfl (ki := 0) rfl ?_
      refine j_icmp_ge (p2 := 13) (tg := 176) dT_remember_10 rfl (by decide) (by constructor <;> omega) (by rw [eN]; constructor <;> omega) (fun h10 => ?_) (fun h10 => ?_)
      · refine j_return dT_remember_176 rfl (by rw [eN] at h10; have e : i = N := (by omega); subst e; rw [hτ]; exact hQ S R O D hS (fun m x y w => (hR m x y w).1 y) hD_)
      · refine j_aload_n (p2 := 14) dT_remember_13 rfl rfl ?_
        refine j_getR (p2 := 17) dT_remember_14 rfl fa_T_49 ly_21 rfl ?_
        refine j_getR (p2 := 20) dT_remember_17 rfl fa_T_119 ly_3 rfl ?_
        refine j_iload_n (p2 := 21) dT_remember_20 rfl rfl ?_
        refine j_iald (p2 := 22) dT_remember_21 rfl ly_4 (by decide) (by omega) (by rw [eN] at h10; omega) ?_
        refine j_iconst (p2 := 23) dT_remember_22 rfl ?_
        refine j_icmp_ne (p2 := 26) (tg := 41) dT_remember_23 rfl (by decide) (by rw [eN] at h10; rw [eK]; have := kb (by omega); constructor <;> omega) (by constructor <;> omega) (fun h23 => ?_) (fun h23 => ?_)
        · refine j_aload_n (p2 := 42) dT_remember_41 rfl rfl ?_
          refine j_getR (p2 := 45) dT_remember_42 rfl fa_T_49 ly_21 rfl ?_
          refine j_getR (p2 := 48) dT_remember_45 rfl fa_T_119 ly_3 rfl ?_
          refine j_iload_n (p2 := 49) dT_remember_48 rfl rfl ?_
          refine j_iald (p2 := 50) dT_remember_49 rfl ly_4 (by decide) (by omega) (by rw [eN] at h10; omega) ?_
          refine j_bipush (v := 11) (p2 := 52) dT_remember_50 rfl rfl ?_
          refine j_icmp_ne (p2 := 55) (tg := 117) dT_remember_52 rfl (by decide) (by rw [eN] at h10; rw [eK]; have := kb (by omega); constructor <;> omega) (by constructor <;> omega) (fun h52 => ?_) (fun h52 => ?_)
          · refine j_aload_n (p2 := 118) dT_remember_117 rfl rfl ?_
            refine j_getR (p2 := 121) dT_remember_118 rfl fa_T_49 ly_21 rfl ?_
            refine j_getR (p2 := 124) dT_remember_121 rfl fa_T_119 ly_3 rfl ?_
            refine j_iload_n (p2 := 125) dT_remember_124 rfl rfl ?_
            refine j_iald (p2 := 126) dT_remember_125 rfl ly_4 (by decide) (by omega) (by rw [eN] at h10; omega) ?_
            refine j_bipush (v := 13) (p2 := 128) dT_remember_126 rfl rfl ?_
            refine j_icmp_ne (p2 := 131) (tg := 170) dT_remember_128 rfl (by decide) (by rw [eN] at h10; rw [eK]; have := kb (by omega); constructor <;> omega) (by constructor <;> omega) (fun h128 => ?_) (fun h128 => ?_)
            · refine j_iinc (p2 := 173) (lv' := [(0, _), (1, _)]) dT_remember_170 rfl (Nat.le_of_ble_eq_true rfl) rfl ⟨rfl, rfl, trivial⟩ ?_
              refine j_goto (p2 := 2) dT_remember_173 (by decide) ?_
              refine J.loc (lv' := [(0, _), (1, _)]) ⟨rfl, rfl, trivial⟩ ?_
              rw [eN] at h10
              rw [eK] at h23
              first
                | (have g : hI σ 4 i = 3 := h23
                   exact trk (by omega) g)
                | (rw [eK] at h52 h128
                   exact no (by omega) h23 h52 h128)
            · refine J.loc (lv' := [(0, _), (1, _)]) ⟨rfl, rfl, trivial⟩ ?_
              rw [eN] at h10
              have g : hI σ 4 i = 13 := by rw [← eK]; exact h128
              exact at131 (by omega) g
          · refine J.loc (lv' := [(0, _), (1, _)]) ⟨rfl, rfl, trivial⟩ ?_
            rw [eN] at h10
            have g : hI σ 4 i = 11 := by rw [← eK]; exact h52
            exact at55 (by omega) g
        · refine j_aload_n (p2 := 27) dT_remember_26 rfl rfl ?_
          refine j_getR (p2 := 30) dT_remember_27 rfl fa_T_18 ly_21 rfl ?_
          refine j_iload_n (p2 := 31) dT_remember_30 rfl rfl ?_
          refine j_aload_n (p2 := 32) dT_remember_31 rfl rfl ?_
          refine j_getR (p2 := 35) dT_remember_32 rfl fa_T_34 ly_21 rfl ?_
          refine j_iload_n (p2 := 36) dT_remember_35 rfl rfl ?_
          refine j_dald (p2 := 37) dT_remember_36 rfl ly_29 (by decide) (by omega) (by rw [eN] at h10; omega) ?_
          refine j_dastk (p2 := 38) dT_remember_37 rfl ly_24 (by decide) (by omega) (by rw [eN] at h10; omega) ?_
          refine j_goto (p2 := 170) dT_remember_38 (by decide) ?_
          refine j_iinc (p2 := 173) (lv' := [(0, _), (1, _)]) dT_remember_170 rfl (Nat.le_of_ble_eq_true rfl) rfl ⟨rfl, rfl, trivial⟩ ?_
          refine j_goto (p2 := 2) dT_remember_173 (by decide) ?_
          refine J.loc (lv' := [(0, _), (1, _)]) ⟨rfl, rfl, trivial⟩ ?_
          rw [eN] at h10
          rw [eK] at h23
          first
            | (have g : hI σ 4 i = 3 := h23
               exact trk (by omega) g)
            | (rw [eK] at h52 h128
               exact no (by omega) h23 h52 h128)
  have start := loop (N + 1) 0 (by omega) (by omega) (hD σ 24) (hD σ 25) (hI σ 26) (hI σ 27) (fun m x y => by rw [pw_0]; exact hst m x y) (fun m x y w => ⟨fun q => absurd q (by omega), fun _ => (hrg m x y w).1⟩) (fun m x y w => by rw [pw_0]; exact hsd m x y w)
  rw [rmd_0] at start
  refine j_iconst (p2 := 1) dT_remember_0 rfl ?_
  refine j_istore_n (p2 := 2) (lv' := [(0, _), (1, _)]) dT_remember_1 rfl (Nat.le_of_ble_eq_true rfl) ⟨rfl, rfl, trivial⟩ ?_
  refine J.loc (lv' := [(0, _), (1, _)]) ⟨rfl, rfl, trivial⟩ ?_
  exact start
theorem cTf_keepComing {fr : Int → Int} {r st : Int → UInt32} {N : Nat} (hc : CtI σ fr N) (hr : Rdf σ r N) (hst : ∀ m : Int, 0 ≤ m → m < N → hD σ 37 m = cvF (st m) ∧ BdF (st m)) (hp : PatW σ fr N)
    (hQ : ∀ a, (∀ m : Int, 0 ≤ m → m < N → hI σ 4 m = 3 ∨ hI σ 4 m = 11 → a m = cvF (gnx arF (hI σ 4) fr (hI σ 10) r st m) ∧ BdF (gnx arF (hI σ 4) fr (hI σ 10) r st m)) → Q none (wD σ 42 a)) : Sp mT_keepComing [vR 34] σ Q := by
  have hN := hc.1
  have hN2 := hc.2.1
  have loop : ∀ (n i : Nat), i ≤ N → N + 1 ≤ i + n → ∀ a, (∀ m : Int, 0 ≤ m → m < i → hI σ 4 m = 3 ∨ hI σ 4 m = 11 → a m = cvF (gnx arF (hI σ 4) fr (hI σ 10) r st m) ∧ BdF (gnx arF (hI σ 4) fr (hI σ 10) r st m)) → J mT_keepComing 2 [(0, vR 34), (1, vI i)] [] (wD σ 42 a) Q := by
    intro n
    induction n with
    | zero => intro i h1 h2; exact absurd h2 (by omega)
    | succ n ih =>
      intro i i1 i2 a ha
      obtain ⟨τ, hτ⟩ : ∃ τ, τ = wD σ 42 a := ⟨_, rfl⟩
      have eN : hI τ 3 0 = N := by rw [hτ]; exact hN
      have eK : hI τ 4 = hI σ 4 := by rw [hτ]; rfl
      have eC : hD τ 42 = a := by rw [hτ]; rfl
      have eS : hD τ 37 = hD σ 37 := by rw [hτ]; rfl
      have e10 : hI τ 10 = hI σ 10 := by rw [hτ]; rfl
      have hcτ : CtI τ fr N := by rw [hτ]; exact hc
      have hrτ : Rdf τ r N := by rw [hτ]; exact hr
      have kb : i < N → 0 ≤ hI σ 4 i ∧ hI σ 4 i < 14 := fun h => hc.2.2.1 i (by omega) (by omega)
      have hgi : i < N → ∀ j : Int, 0 ≤ j → j < 6 → ¬ fr (6 * i + j) = -1 → ga arF fr (hI σ 10) r i j = gin arF fr (hI σ 10) r i j ∧ BdF (gin arF fr (hI σ 10) r i j) := fun z j j0 j1 g => by
        have e : ga arF fr (hI σ 10) r i j = gin arF fr (hI σ 10) r i j := if_neg g
        refine ⟨e, ?_⟩
        rw [← e]
        exact ga_bdF (hc.2.2.2 i j (by omega) (by omega) j0 j1).2.1 (fun k x y => (hr k x y).2)
      have no : i < N → ¬ hI σ 4 i = 3 → ¬ hI σ 4 i = 11 → J mT_keepComing 2 [(0, vR 34), (1, vI (i + 1))] [] τ Q := fun z g g2 => by
        rw [hτ]
        exact ih (i + 1) (by omega) (by omega) a (fun m x y w => by
          by_cases e : m = i
          · subst e; rcases w with w | w
            · exact absurd w g
            · exact absurd w g2
          · exact ha m x (by omega) w)
      have yes : i < N → ∀ y, y = gnx arF (hI σ 4) fr (hI σ 10) r st i → BdF y → J mT_keepComing 2 [(0, vR 34), (1, vI (i + 1))] [] (wD τ 42 (fup (hD τ 42) i (cvF y))) Q := fun z y hy hb => by
        rw [eC, hτ, wD_wD]
        refine ih (i + 1) (by omega) (by omega) _ (fun m x y0 w => ?_)
        by_cases e : m = i
        · subst e; rw [fup_s, ← hy]; exact ⟨rfl, hb⟩
        · rw [fup_n e]; exact ha m x (by omega) w
      clear ih
      rw [← hτ]
      have hpi : i < N → _ := fun z => hp i (by omega) (by omega)
      have trk : i < N → hI σ 4 i = 3 → J mT_keepComing 26 [(0, vR 34), (1, vI i)] [] τ Q := by
        intro z g
        obtain ⟨f0, f1⟩ := (hpi z).2.2.1 g
        obtain ⟨a0, b0⟩ := hgi z 0 (by omega) (by omega) f0
        obtain ⟨a1, b1⟩ := hgi z 1 (by omega) (by omega) f1
        obtain ⟨s1, s2⟩ := hst i (by omega) (by omega)
        have c1 := cmp0F (bd_nnF b1)
        have gx : gnx arF (hI σ 4) fr (hI σ 10) r st i = if Acm arF (gin arF fr (hI σ 10) r i 1) (Ac arF 0) = some .gt then gin arF fr (hI σ 10) r i 0 else st i := if_pos g
        have y1 : Acm arF (gin arF fr (hI σ 10) r i 1) (Ac arF 0) = some .gt → J mT_keepComing 2 [(0, vR 34), (1, vI (i + 1))] [] (wD τ 42 (fup (hD τ 42) i (cvF (gin arF fr (hI σ 10) r i 0)))) Q := fun w => yes z _ (by rw [gx, if_pos w]) b0
        have y2 : ¬ Acm arF (gin arF fr (hI σ 10) r i 1) (Ac arF 0) = some .gt → J mT_keepComing 2 [(0, vR 34), (1, vI (i + 1))] [] (wD τ 42 (fup (hD τ 42) i (hD τ 37 i))) Q := fun w => by
          rw [eS, s1]
          exact yes z _ (by rw [gx, if_neg w]) s2
        refine j_aload_n (p2 := 27) dT_keepComing_26 rfl rfl ?_
        refine j_getR (p2 := 30) dT_keepComing_27 rfl fa_T_34 ly_34 rfl ?_
        refine j_iload_n (p2 := 31) dT_keepComing_30 rfl rfl ?_
        refine j_aload_n (p2 := 32) dT_keepComing_31 rfl rfl ?_
        refine j_iload_n (p2 := 33) dT_keepComing_32 rfl rfl ?_
        refine j_iconst (p2 := 34) dT_keepComing_33 rfl ?_
        refine j_callV (m' := mT_in) (As := [_, _]) (p2 := 37) dT_keepComing_34 rfl ml_T_134 ok_mT_in im_mT_in se_mT_in rfl rfl (Nat.le_of_ble_eq_true rfl) ly_34 rfl (Nat.le_of_ble_eq_true rfl) ⟨(Nat.le_of_ble_eq_true rfl), (Nat.le_of_ble_eq_true rfl)⟩ ?_
        refine cTf_in hcτ (by omega) (by omega) hrτ ?_
        rw [e10, a1]
        refine j_dconst0 (p2 := 38) dT_keepComing_37 rfl ?_
        refine j_dcmp_l_le (p1 := 39) (p2 := 42) (tg := 51) dT_keepComing_38 rfl dT_keepComing_39 rfl (by decide) (fun h38 => ?_) (fun h38 => ?_)
        · refine j_aload_n (p2 := 52) dT_keepComing_51 rfl rfl ?_
          refine j_getR (p2 := 55) dT_keepComing_52 rfl fa_T_18 ly_34 rfl ?_
          refine j_iload_n (p2 := 56) dT_keepComing_55 rfl rfl ?_
          refine j_dald (p2 := 57) dT_keepComing_56 rfl ly_37 (by decide) (by omega) (by omega) ?_
          refine j_dastk (p2 := 58) dT_keepComing_57 rfl ly_42 (by decide) (by omega) (by omega) ?_
          refine j_goto (p2 := 87) dT_keepComing_58 (by decide) ?_
          refine j_iinc (p2 := 90) (lv' := [(0, _), (1, _)]) dT_keepComing_87 rfl (Nat.le_of_ble_eq_true rfl) rfl ⟨rfl, rfl, trivial⟩ ?_
          refine j_goto (p2 := 2) dT_keepComing_90 (by decide) ?_
          refine J.loc (lv' := [(0, _), (1, _)]) ⟨rfl, rfl, trivial⟩ ?_
          rw [c1] at h38
          first
            | (have w : Acm arF (gin arF fr (hI σ 10) r i 1) (Ac arF 0) = some .gt := h38
               exact y1 w)
            | (have w : ¬ Acm arF (gin arF fr (hI σ 10) r i 1) (Ac arF 0) = some .gt := h38
               exact y2 w)
        · refine j_aload_n (p2 := 43) dT_keepComing_42 rfl rfl ?_
          refine j_iload_n (p2 := 44) dT_keepComing_43 rfl rfl ?_
          refine j_iconst (p2 := 45) dT_keepComing_44 rfl ?_
          refine j_callV (m' := mT_in) (As := [_, _]) (p2 := 48) dT_keepComing_45 rfl ml_T_134 ok_mT_in im_mT_in se_mT_in rfl rfl (Nat.le_of_ble_eq_true rfl) ly_34 rfl (Nat.le_of_ble_eq_true rfl) ⟨(Nat.le_of_ble_eq_true rfl), (Nat.le_of_ble_eq_true rfl)⟩ ?_
          refine cTf_in hcτ (by omega) (by omega) hrτ ?_
          rw [e10, a0]
          refine j_goto (p2 := 57) dT_keepComing_48 (by decide) ?_
          refine j_dastk (p2 := 58) dT_keepComing_57 rfl ly_42 (by decide) (by omega) (by omega) ?_
          refine j_goto (p2 := 87) dT_keepComing_58 (by decide) ?_
          refine j_iinc (p2 := 90) (lv' := [(0, _), (1, _)]) dT_keepComing_87 rfl (Nat.le_of_ble_eq_true rfl) rfl ⟨rfl, rfl, trivial⟩ ?_
          refine j_goto (p2 := 2) dT_keepComing_90 (by decide) ?_
          refine J.loc (lv' := [(0, _), (1, _)]) ⟨rfl, rfl, trivial⟩ ?_
          rw [c1] at h38
          first
            | (have w : Acm arF (gin arF fr (hI σ 10) r i 1) (Ac arF 0) = some .gt := h38
               exact y1 w)
            | (have w : ¬ Acm arF (gin arF fr (hI σ 10) r i 1) (Ac arF 0) = some .gt := h38
               exact y2 w)
      have dly : i < N → hI σ 4 i = 11 → J mT_keepComing 75 [(0, vR 34), (1, vI i)] [] τ Q := by
        intro z g
        obtain ⟨a0, b0⟩ := hgi z 0 (by omega) (by omega) ((hpi z).2.2.2 g)
        have y1 := yes z (gin arF fr (hI σ 10) r i 0) (by unfold gnx; rw [if_neg (by omega)]) b0
        refine j_aload_n (p2 := 76) dT_keepComing_75 rfl rfl ?_
        refine j_getR (p2 := 79) dT_keepComing_76 rfl fa_T_34 ly_34 rfl ?_
        refine j_iload_n (p2 := 80) dT_keepComing_79 rfl rfl ?_
        refine j_aload_n (p2 := 81) dT_keepComing_80 rfl rfl ?_
        refine j_iload_n (p2 := 82) dT_keepComing_81 rfl rfl ?_
        refine j_iconst (p2 := 83) dT_keepComing_82 rfl ?_
        refine j_callV (m' := mT_in) (As := [_, _]) (p2 := 86) dT_keepComing_83 rfl ml_T_134 ok_mT_in im_mT_in se_mT_in rfl rfl (Nat.le_of_ble_eq_true rfl) ly_34 rfl (Nat.le_of_ble_eq_true rfl) ⟨(Nat.le_of_ble_eq_true rfl), (Nat.le_of_ble_eq_true rfl)⟩ ?_
        refine cTf_in hcτ (by omega) (by omega) hrτ ?_
        rw [e10, a0]
        refine j_dastk (p2 := 87) dT_keepComing_86 rfl ly_42 (by decide) (by omega) (by omega) ?_
        refine j_iinc (p2 := 90) (lv' := [(0, _), (1, _)]) dT_keepComing_87 rfl (Nat.le_of_ble_eq_true rfl) rfl ⟨rfl, rfl, trivial⟩ ?_
        refine j_goto (p2 := 2) dT_keepComing_90 (by decide) ?_
        refine J.loc (lv' := [(0, _), (1, _)]) ⟨rfl, rfl, trivial⟩ ?_
        exact y1
      refine j_iload_n (p2 := 3) dT_keepComing_2 rfl rfl ?_
      refine j_aload_n (p2 := 4) dT_keepComing_3 rfl rfl ?_
      refine j_getR (p2 := 7) dT_keepComing_4 rfl fa_T_49 ly_34 rfl ?_
      refine j_getIk (p2 := 10) dT_keepComing_7 rfl fa_T_65 ly_3 rfl (ki := 0) rfl ?_
      refine j_icmp_ge (p2 := 13) (tg := 93) dT_keepComing_10 rfl (by decide) (by constructor <;> omega) (by rw [eN]; constructor <;> omega) (fun h10 => ?_) (fun h10 => ?_)
      · refine j_return dT_keepComing_93 rfl (by rw [eN] at h10; have e : i = N := (by omega); subst e; rw [hτ]; exact hQ a ha)
      · refine j_aload_n (p2 := 14) dT_keepComing_13 rfl rfl ?_
        refine j_getR (p2 := 17) dT_keepComing_14 rfl fa_T_49 ly_34 rfl ?_
        refine j_getR (p2 := 20) dT_keepComing_17 rfl fa_T_119 ly_3 rfl ?_
        refine j_iload_n (p2 := 21) dT_keepComing_20 rfl rfl ?_
        refine j_iald (p2 := 22) dT_keepComing_21 rfl ly_4 (by decide) (by omega) (by rw [eN] at h10; omega) ?_
        refine j_iconst (p2 := 23) dT_keepComing_22 rfl ?_
        refine j_icmp_ne (p2 := 26) (tg := 61) dT_keepComing_23 rfl (by decide) (by rw [eN] at h10; rw [eK]; have := kb (by omega); constructor <;> omega) (by constructor <;> omega) (fun h23 => ?_) (fun h23 => ?_)
        · refine j_aload_n (p2 := 62) dT_keepComing_61 rfl rfl ?_
          refine j_getR (p2 := 65) dT_keepComing_62 rfl fa_T_49 ly_34 rfl ?_
          refine j_getR (p2 := 68) dT_keepComing_65 rfl fa_T_119 ly_3 rfl ?_
          refine j_iload_n (p2 := 69) dT_keepComing_68 rfl rfl ?_
          refine j_iald (p2 := 70) dT_keepComing_69 rfl ly_4 (by decide) (by omega) (by rw [eN] at h10; omega) ?_
          refine j_bipush (v := 11) (p2 := 72) dT_keepComing_70 rfl rfl ?_
          refine j_icmp_ne (p2 := 75) (tg := 87) dT_keepComing_72 rfl (by decide) (by rw [eN] at h10; rw [eK]; have := kb (by omega); constructor <;> omega) (by constructor <;> omega) (fun h72 => ?_) (fun h72 => ?_)
          · refine j_iinc (p2 := 90) (lv' := [(0, _), (1, _)]) dT_keepComing_87 rfl (Nat.le_of_ble_eq_true rfl) rfl ⟨rfl, rfl, trivial⟩ ?_
            refine j_goto (p2 := 2) dT_keepComing_90 (by decide) ?_
            refine J.loc (lv' := [(0, _), (1, _)]) ⟨rfl, rfl, trivial⟩ ?_
            rw [eN] at h10
            rw [eK] at h23 h72
            exact no (by omega) h23 h72
          · refine J.loc (lv' := [(0, _), (1, _)]) ⟨rfl, rfl, trivial⟩ ?_
            rw [eN] at h10
            have g : hI σ 4 i = 11 := by rw [← eK]; exact h72
            exact dly (by omega) g
        · refine J.loc (lv' := [(0, _), (1, _)]) ⟨rfl, rfl, trivial⟩ ?_
          rw [eN] at h10
          have g : hI σ 4 i = 3 := by rw [← eK]; exact h23
          exact trk (by omega) g
  have start := loop (N + 1) 0 (by omega) (by omega) (hD σ 42) (fun m x y => absurd y (by omega))
  rw [wD_id] at start
  refine j_iconst (p2 := 1) dT_keepComing_0 rfl ?_
  refine j_istore_n (p2 := 2) (lv' := [(0, _), (1, _)]) dT_keepComing_1 rfl (Nat.le_of_ble_eq_true rfl) ⟨rfl, rfl, trivial⟩ ?_
  refine J.loc (lv' := [(0, _), (1, _)]) ⟨rfl, rfl, trivial⟩ ?_
  exact start
def rmf (σ : Hp) (S R : Int → UInt64) (O D : Int → Int) : Hp := wI (wI (wD (wD σ 37 S) 38 R) 39 O) 40 D
theorem rmf_1 {S S' R : Int → UInt64} {O D : Int → Int} : wD (rmf σ S R O D) 37 S' = rmf σ S' R O D := by
  unfold rmf
  apply hp_ext <;> intro x <;> simp only [hI_wI, hI_wL, hI_wF, hI_wD, hL_wI, hL_wL, hL_wF, hL_wD, hF_wI, hF_wL, hF_wF, hF_wD, hD_wI, hD_wL, hD_wF, hD_wD]
  by_cases h1 : x = 37 <;> by_cases h2 : x = 38 <;> simp_all
theorem rmf_2 {S R R' : Int → UInt64} {O O' D : Int → Int} : wI (wD (rmf σ S R O D) 38 R') 39 O' = rmf σ S R' O' D := by
  unfold rmf
  apply hp_ext <;> intro x <;> simp only [hI_wI, hI_wL, hI_wF, hI_wD, hL_wI, hL_wL, hL_wF, hL_wD, hF_wI, hF_wL, hF_wF, hF_wD, hD_wI, hD_wL, hD_wF, hD_wD]
  · by_cases h1 : x = 39 <;> by_cases h2 : x = 40 <;> simp_all
  · by_cases h1 : x = 37 <;> by_cases h2 : x = 38 <;> simp_all
theorem rmf_3 {S S' R : Int → UInt64} {O D D' : Int → Int} : wD (wI (rmf σ S R O D) 40 D') 37 S' = rmf σ S' R O D' := by
  unfold rmf
  apply hp_ext <;> intro x <;> simp only [hI_wI, hI_wL, hI_wF, hI_wD, hL_wI, hL_wL, hL_wF, hL_wD, hF_wI, hF_wL, hF_wF, hF_wD, hD_wI, hD_wL, hD_wF, hD_wD]
  · by_cases h1 : x = 39 <;> by_cases h2 : x = 40 <;> simp_all
  · by_cases h1 : x = 37 <;> by_cases h2 : x = 38 <;> simp_all
theorem rmf_0 : rmf σ (hD σ 37) (hD σ 38) (hI σ 39) (hI σ 40) = σ := by
  unfold rmf
  rw [wD_id, wD_id, wI_id, wI_id]
theorem cTf_remember {fr : Int → Int} {st nx row : Int → UInt32} {nn sd : Int → Int} {N : Nat} (hc : CtI σ fr N) (hfl : hI σ 34 3 = 1) (hst : ∀ m : Int, 0 ≤ m → m < N → hD σ 37 m = cvF (st m) ∧ BdF (st m)) (hco : ∀ m : Int, 0 ≤ m → m < N → hI σ 4 m = 3 ∨ hI σ 4 m = 11 → hD σ 42 m = cvF (nx m) ∧ BdF (nx m)) (hrg : ∀ m : Int, 0 ≤ m → m < N → hI σ 4 m = 11 → RgXF (hD σ 38) (hI σ 39) nn row m ∧ SCmp (hD σ 36 m) (nn m)) (hsd : ∀ m : Int, 0 ≤ m → m < N → hI σ 4 m = 13 → hI σ 40 m = sd m)
    (hQ : ∀ S R O D, (∀ m : Int, 0 ≤ m → m < N → S m = cvF (pw st (othS (hI σ 4) nx st (fun m => zcF (sdS (hI σ 4) sd m))) N m) ∧ BdF (pw st (othS (hI σ 4) nx st (fun m => zcF (sdS (hI σ 4) sd m))) N m)) → (∀ m : Int, 0 ≤ m → m < N → hI σ 4 m = 11 → RgXF R O nn (pw row (rowS (hI σ 4) nn row nx) (16 * N)) m) → (∀ m : Int, 0 ≤ m → m < N → hI σ 4 m = 13 → D m = pw sd (sdS (hI σ 4) sd) N m) → Q none (rmf σ S R O D)) : Sp mT_remember [vR 34] σ Q := by
  have hN := hc.1
  have hN2 := hc.2.1
  have loop : ∀ (n i : Nat), i ≤ N → N + 1 ≤ i + n → ∀ S R O D, (∀ m : Int, 0 ≤ m → m < N → S m = cvF (pw st (othS (hI σ 4) nx st (fun m => zcF (sdS (hI σ 4) sd m))) i m) ∧ BdF (pw st (othS (hI σ 4) nx st (fun m => zcF (sdS (hI σ 4) sd m))) i m)) → (∀ m : Int, 0 ≤ m → m < N → hI σ 4 m = 11 → (m < i → RgXF R O nn (pw row (rowS (hI σ 4) nn row nx) (16 * N)) m) ∧ (i ≤ m → RgXF R O nn row m)) → (∀ m : Int, 0 ≤ m → m < N → hI σ 4 m = 13 → D m = pw sd (sdS (hI σ 4) sd) i m) → J mT_remember 2 [(0, vR 34), (1, vI i)] [] (rmf σ S R O D) Q := by
    intro n
    induction n with
    | zero => intro i h1 h2; exact absurd h2 (by omega)
    | succ n ih =>
      intro i i1 i2 S R O D hS hR hD_
      obtain ⟨τ, hτ⟩ : ∃ τ, τ = rmf σ S R O D := ⟨_, rfl⟩
      have eN : hI τ 3 0 = N := by rw [hτ]; exact hN
      have eK : hI τ 4 = hI σ 4 := by rw [hτ]; rfl
      have eC : hD τ 42 = hD σ 42 := by rw [hτ]; rfl
      have eE : hD τ 36 = hD σ 36 := by rw [hτ]; rfl
      have eS : hD τ 37 = S := by rw [hτ]; rfl
      have eR : hD τ 38 = R := by rw [hτ]; rfl
      have eO : hI τ 39 = O := by rw [hτ]; rfl
      have eD : hI τ 40 = D := by rw [hτ]; rfl
      have efl : hI τ 34 3 = 1 := by rw [hτ]; exact hfl
      have kb : i < N → 0 ≤ hI σ 4 i ∧ hI σ 4 i < 14 := fun h => hc.2.2.1 i (by omega) (by omega)
      have kpS : ¬ hI σ 4 i = 3 → ¬ hI σ 4 i = 13 → pw st (othS (hI σ 4) nx st (fun m => zcF (sdS (hI σ 4) sd m))) (i + 1) = pw st (othS (hI σ 4) nx st (fun m => zcF (sdS (hI σ 4) sd m))) i := fun g g2 => pw_k2 (by unfold othS; rw [if_neg g, if_neg g2])
      have kpD : ¬ hI σ 4 i = 13 → pw sd (sdS (hI σ 4) sd) (i + 1) = pw sd (sdS (hI σ 4) sd) i := fun g => pw_k2 (by unfold sdS; rw [if_neg g])
      have kpR : ¬ hI σ 4 i = 11 → ∀ m : Int, 0 ≤ m → m < N → hI σ 4 m = 11 → (m < ((i + 1 : Nat) : Int) → RgXF R O nn (pw row (rowS (hI σ 4) nn row nx) (16 * N)) m) ∧ (((i + 1 : Nat) : Int) ≤ m → RgXF R O nn row m) := fun g m x y w => by
        refine ⟨fun q => ?_, fun q => (hR m x y w).2 (by omega)⟩
        by_cases e : m = i
        · subst e; exact absurd w g
        · exact (hR m x y w).1 (by omega)
      have no : i < N → ¬ hI σ 4 i = 3 → ¬ hI σ 4 i = 11 → ¬ hI σ 4 i = 13 → J mT_remember 2 [(0, vR 34), (1, vI (i + 1))] [] τ Q := fun z g g2 g3 => by
        rw [hτ]
        exact ih (i + 1) (by omega) (by omega) S R O D (fun m x y => by rw [kpS g g3]; exact hS m x y) (kpR g2) (fun m x y w => by rw [kpD g3]; exact hD_ m x y w)
      have trk : i < N → hI σ 4 i = 3 → J mT_remember 2 [(0, vR 34), (1, vI (i + 1))] [] (wD τ 37 (fup (hD τ 37) i (hD τ 42 i))) Q := fun z g => by
        obtain ⟨c1, c2⟩ := hco i (by omega) (by omega) (Or.inl g)
        rw [eS, eC, c1, hτ, rmf_1]
        refine ih (i + 1) (by omega) (by omega) _ R O D (fun m x y => ?_) (kpR (by omega)) (fun m x y w => by rw [kpD (by omega)]; exact hD_ m x y w)
        rw [← pw_s]
        have e1 : othS (hI σ 4) nx st (fun m => zcF (sdS (hI σ 4) sd m)) i = nx i := if_pos g
        rw [e1]
        unfold fup
        by_cases e : m = i
        · rw [if_pos e, if_pos e]; exact ⟨rfl, c2⟩
        · rw [if_neg e, if_neg e]; exact hS m x y
      have dly : i < N → hI σ 4 i = 11 → ∀ o, o = (if O i + 1 < nn i then O i + 1 else 0) → J mT_remember 2 [(0, vR 34), (1, vI (i + 1))] [] (wI (wD τ 38 (fup R (i * 16 + O i) (hD σ 42 i))) 39 (fup O i o)) Q := fun z g o ho => by
        obtain ⟨c1, c2⟩ := hco i (by omega) (by omega) (Or.inr g)
        rw [c1, hτ, rmf_2]
        have hRi := (hR i (by omega) (by omega) g).2 (by omega)
        have hO16 : 0 ≤ O i ∧ O i < 16 := by have := hRi.1; have := hRi.2.1; omega
        refine ih (i + 1) (by omega) (by omega) S _ _ D (fun m x y => by rw [kpS (by omega) (by omega)]; exact hS m x y) (fun m x y w => ⟨fun q => ?_, fun q => ?_⟩) (fun m x y w => by rw [kpD (by omega)]; exact hD_ m x y w)
        · by_cases e : m = i
          · subst e
            exact rg_newF hRi (by omega) g c2 ho
          · exact rg_othF ((hR m x y w).1 (by omega)) e hO16
        · exact rg_othF ((hR m x y w).2 (by omega)) (by omega) hO16
      have noi : i < N → hI σ 4 i = 13 → J mT_remember 2 [(0, vR 34), (1, vI (i + 1))] [] (wD (wI τ 40 (fup D i (1664525 * D i + 1013904223))) 37 (fup S i (rndC true (nz (1664525 * D i + 1013904223))))) Q := fun z g => by
        have hDi := hD_ i (by omega) (by omega) g
        rw [pw_at] at hDi
        have e2 : sdS (hI σ 4) sd i = 1664525 * D i + 1013904223 := by unfold sdS; rw [if_pos g, hDi]
        rw [zcF_cv, hτ, rmf_3]
        refine ih (i + 1) (by omega) (by omega) _ R O _ (fun m x y => ?_) (kpR (by omega)) (fun m x y w => ?_)
        · rw [← pw_s]
          have e1 : othS (hI σ 4) nx st (fun m => zcF (sdS (hI σ 4) sd m)) i = zcF (1664525 * D i + 1013904223) := by
            unfold othS
            rw [if_neg (by omega), if_pos g]
            show zcF (sdS (hI σ 4) sd i) = _
            rw [e2]
          rw [e1]
          unfold fup
          by_cases e : m = i
          · rw [if_pos e, if_pos e]; exact ⟨rfl, zcF_bd _⟩
          · rw [if_neg e, if_neg e]; exact hS m x y
        · rw [← pw_s, e2]
          unfold fup
          by_cases e : m = i
          · rw [if_pos e, if_pos e]
          · rw [if_neg e, if_neg e]; exact hD_ m x y w
      clear ih
      rw [← hτ]
      have at55 : i < N → hI σ 4 i = 11 → J mT_remember 55 [(0, vR 34), (1, vI i)] [] τ Q := by
        intro z g
        have hRi := (hR i (by omega) (by omega) g).2 (by omega)
        have hO16 : 0 ≤ O i ∧ O i < 16 := by have := hRi.1; have := hRi.2.1; omega
        have hsc := (hrg i (by omega) (by omega) g).2 (O i) (by omega) (by omega)
        have eO2 : ∀ x, hI (wD τ 38 x) 39 = O := fun x => eO
        have eE2 : ∀ x, hD (wD τ 38 x) 36 = hD σ 36 := fun x => eE
        refine j_aload_n (p2 := 56) dT_remember_55 rfl rfl ?_
        refine j_getR (p2 := 59) dT_remember_56 rfl fa_T_21 ly_34 rfl ?_
        refine j_iload_n (p2 := 60) dT_remember_59 rfl rfl ?_
        refine j_bipush (v := 16) (p2 := 62) dT_remember_60 rfl rfl ?_
        refine j_imul (p2 := 63) dT_remember_62 rfl ?_
        refine j_aload_n (p2 := 64) dT_remember_63 rfl rfl ?_
        refine j_getR (p2 := 67) dT_remember_64 rfl fa_T_24 ly_34 rfl ?_
        refine j_iload_n (p2 := 68) dT_remember_67 rfl rfl ?_
        refine j_iald (p2 := 69) dT_remember_68 rfl ly_39 (by decide) (by omega) (by omega) ?_
        refine j_iadd (p2 := 70) dT_remember_69 rfl ?_
        refine j_aload_n (p2 := 71) dT_remember_70 rfl rfl ?_
        refine j_getR (p2 := 74) dT_remember_71 rfl fa_T_34 ly_34 rfl ?_
        refine j_iload_n (p2 := 75) dT_remember_74 rfl rfl ?_
        refine j_dald (p2 := 76) dT_remember_75 rfl ly_42 (by decide) (by omega) (by omega) ?_
        refine j_dastk (p2 := 77) dT_remember_76 rfl ly_38 (by decide) (by rw [eO]; omega) (by rw [eO]; omega) ?_
        refine j_aload_n (p2 := 78) dT_remember_77 rfl rfl ?_
        refine j_getR (p2 := 81) dT_remember_78 rfl fa_T_24 ly_34 rfl ?_
        refine j_iload_n (p2 := 82) dT_remember_81 rfl rfl ?_
        refine j_aload_n (p2 := 83) dT_remember_82 rfl rfl ?_
        refine j_getR (p2 := 86) dT_remember_83 rfl fa_T_24 ly_34 rfl ?_
        refine j_iload_n (p2 := 87) dT_remember_86 rfl rfl ?_
        refine j_iald (p2 := 88) dT_remember_87 rfl ly_39 (by decide) (by omega) (by omega) ?_
        refine j_iconst (p2 := 89) dT_remember_88 rfl ?_
        refine j_iadd (p2 := 90) dT_remember_89 rfl ?_
        refine j_i2d (p2 := 91) dT_remember_90 rfl ?_
        refine j_aload_n (p2 := 92) dT_remember_91 rfl rfl ?_
        refine j_getR (p2 := 95) dT_remember_92 rfl fa_T_15 ly_34 rfl ?_
        refine j_iload_n (p2 := 96) dT_remember_95 rfl rfl ?_
        refine j_dald (p2 := 97) dT_remember_96 rfl ly_36 (by decide) (by omega) (by omega) ?_
        refine j_dcmp_g_ge (p1 := 98) (p2 := 101) (tg := 112) dT_remember_97 rfl dT_remember_98 rfl (by decide) (fun h97 => ?_) (fun h97 => ?_)
        · refine j_iconst (p2 := 113) dT_remember_112 rfl ?_
          refine j_iastk (p2 := 114) dT_remember_113 rfl ly_39 (by decide) (by omega) (by omega) ?_
          refine j_goto (p2 := 170) dT_remember_114 (by decide) ?_
          refine j_iinc (p2 := 173) (lv' := [(0, _), (1, _)]) dT_remember_170 rfl (Nat.le_of_ble_eq_true rfl) rfl ⟨rfl, rfl, trivial⟩ ?_
          refine j_goto (p2 := 2) dT_remember_173 (by decide) ?_
          refine J.loc (lv' := [(0, _), (1, _)]) ⟨rfl, rfl, trivial⟩ ?_
          rw [eO2, eE2] at h97
          rw [eO2, eR, eO, eC]
          first
            | (have w := hsc.mp h97
               exact dly z g _ (by rw [if_pos w]))
            | (have w : ¬ O i + 1 < nn i := fun q => h97 (hsc.mpr q)
               exact dly z g _ (by rw [if_neg w]))
        · refine j_aload_n (p2 := 102) dT_remember_101 rfl rfl ?_
          refine j_getR (p2 := 105) dT_remember_102 rfl fa_T_24 ly_34 rfl ?_
          refine j_iload_n (p2 := 106) dT_remember_105 rfl rfl ?_
          refine j_iald (p2 := 107) dT_remember_106 rfl ly_39 (by decide) (by omega) (by omega) ?_
          refine j_iconst (p2 := 108) dT_remember_107 rfl ?_
          refine j_iadd (p2 := 109) dT_remember_108 rfl ?_
          refine j_goto (p2 := 113) dT_remember_109 (by decide) ?_
          refine j_iastk (p2 := 114) dT_remember_113 rfl ly_39 (by decide) (by omega) (by omega) ?_
          refine j_goto (p2 := 170) dT_remember_114 (by decide) ?_
          refine j_iinc (p2 := 173) (lv' := [(0, _), (1, _)]) dT_remember_170 rfl (Nat.le_of_ble_eq_true rfl) rfl ⟨rfl, rfl, trivial⟩ ?_
          refine j_goto (p2 := 2) dT_remember_173 (by decide) ?_
          refine J.loc (lv' := [(0, _), (1, _)]) ⟨rfl, rfl, trivial⟩ ?_
          rw [eO2, eE2] at h97
          rw [eO2, eR, eO, eC]
          first
            | (have w := hsc.mp h97
               exact dly z g _ (by rw [if_pos w]))
            | (have w : ¬ O i + 1 < nn i := fun q => h97 (hsc.mpr q)
               exact dly z g _ (by rw [if_neg w]))
      have at131 : i < N → hI σ 4 i = 13 → J mT_remember 131 [(0, vR 34), (1, vI i)] [] τ Q := by
        intro z g
        have eD2 : ∀ x, hI (wI τ 40 x) 40 = x := fun x => rfl
        have eS2 : ∀ x, hD (wI τ 40 x) 37 = S := fun x => eS
        have hn := noi z g
        refine j_aload_n (p2 := 132) dT_remember_131 rfl rfl ?_
        refine j_getR (p2 := 135) dT_remember_132 rfl fa_T_28 ly_34 rfl ?_
        refine j_iload_n (p2 := 136) dT_remember_135 rfl rfl ?_
        refine j_ldc (p2 := 138) dT_remember_136 rfl cw_T_138 ?_
        refine j_aload_n (p2 := 139) dT_remember_138 rfl rfl ?_
        refine j_getR (p2 := 142) dT_remember_139 rfl fa_T_28 ly_34 rfl ?_
        refine j_iload_n (p2 := 143) dT_remember_142 rfl rfl ?_
        refine j_iald (p2 := 144) dT_remember_143 rfl ly_40 (by decide) (by omega) (by omega) ?_
        refine j_imul (p2 := 145) dT_remember_144 rfl ?_
        refine j_ldc (p2 := 147) dT_remember_145 rfl cw_T_139 ?_
        refine j_iadd (p2 := 148) dT_remember_147 rfl ?_
        refine j_iastk (p2 := 149) dT_remember_148 rfl ly_40 (by decide) (by omega) (by omega) ?_
        refine j_aload_n (p2 := 150) dT_remember_149 rfl rfl ?_
        refine j_getR (p2 := 153) dT_remember_150 rfl fa_T_18 ly_34 rfl ?_
        refine j_iload_n (p2 := 154) dT_remember_153 rfl rfl ?_
        refine j_aload_n (p2 := 155) dT_remember_154 rfl rfl ?_
        refine j_aload_n (p2 := 156) dT_remember_155 rfl rfl ?_
        refine j_getR (p2 := 159) dT_remember_156 rfl fa_T_28 ly_34 rfl ?_
        refine j_iload_n (p2 := 160) dT_remember_159 rfl rfl ?_
        refine j_iald (p2 := 161) dT_remember_160 rfl ly_40 (by decide) (by omega) (by omega) ?_
        refine j_i2d (p2 := 162) dT_remember_161 rfl ?_
        refine j_ldc2d (p2 := 165) dT_remember_162 rfl cw_T_140 ?_
        refine j_ddiv (p2 := 166) dT_remember_165 rfl (by rw [eD2, fup_s]; exact (mg_15 (nz_15 _)).nn (by decide)) ?_
        refine j_callV (m' := mT_rounded) (As := [_]) (p2 := 169) dT_remember_166 rfl ml_T_74 ok_mT_rounded im_mT_rounded se_mT_rounded rfl rfl (Nat.le_of_ble_eq_true rfl) ly_34 rfl (Nat.le_of_ble_eq_true rfl) ⟨(Nat.le_of_ble_eq_true rfl), (Nat.le_of_ble_eq_true rfl)⟩ ?_
        rw [eD2, fup_s]
        refine cTf_rounded efl ((mg_15 (nz_15 _)).nn (by decide)) ?_
        refine j_dastk (p2 := 170) dT_remember_169 rfl ly_37 (by decide) (by omega) (by omega) ?_
        refine j_iinc (p2 := 173) (lv' := [(0, _), (1, _)]) dT_remember_170 rfl (Nat.le_of_ble_eq_true rfl) rfl ⟨rfl, rfl, trivial⟩ ?_
        refine j_goto (p2 := 2) dT_remember_173 (by decide) ?_
        refine J.loc (lv' := [(0, _), (1, _)]) ⟨rfl, rfl, trivial⟩ ?_
        rw [eS2, eD]
        exact hn
      refine j_iload_n (p2 := 3) dT_remember_2 rfl rfl ?_
      refine j_aload_n (p2 := 4) dT_remember_3 rfl rfl ?_
      refine j_getR (p2 := 7) dT_remember_4 rfl fa_T_49 ly_34 rfl ?_
      refine j_getIk (p2 := 10) dT_remember_7 rfl fa_T_65 ly_3 rfl (ki := 0) rfl ?_
      refine j_icmp_ge (p2 := 13) (tg := 176) dT_remember_10 rfl (by decide) (by constructor <;> omega) (by rw [eN]; constructor <;> omega) (fun h10 => ?_) (fun h10 => ?_)
      · refine j_return dT_remember_176 rfl (by rw [eN] at h10; have e : i = N := (by omega); subst e; rw [hτ]; exact hQ S R O D hS (fun m x y w => (hR m x y w).1 y) hD_)
      · refine j_aload_n (p2 := 14) dT_remember_13 rfl rfl ?_
        refine j_getR (p2 := 17) dT_remember_14 rfl fa_T_49 ly_34 rfl ?_
        refine j_getR (p2 := 20) dT_remember_17 rfl fa_T_119 ly_3 rfl ?_
        refine j_iload_n (p2 := 21) dT_remember_20 rfl rfl ?_
        refine j_iald (p2 := 22) dT_remember_21 rfl ly_4 (by decide) (by omega) (by rw [eN] at h10; omega) ?_
        refine j_iconst (p2 := 23) dT_remember_22 rfl ?_
        refine j_icmp_ne (p2 := 26) (tg := 41) dT_remember_23 rfl (by decide) (by rw [eN] at h10; rw [eK]; have := kb (by omega); constructor <;> omega) (by constructor <;> omega) (fun h23 => ?_) (fun h23 => ?_)
        · refine j_aload_n (p2 := 42) dT_remember_41 rfl rfl ?_
          refine j_getR (p2 := 45) dT_remember_42 rfl fa_T_49 ly_34 rfl ?_
          refine j_getR (p2 := 48) dT_remember_45 rfl fa_T_119 ly_3 rfl ?_
          refine j_iload_n (p2 := 49) dT_remember_48 rfl rfl ?_
          refine j_iald (p2 := 50) dT_remember_49 rfl ly_4 (by decide) (by omega) (by rw [eN] at h10; omega) ?_
          refine j_bipush (v := 11) (p2 := 52) dT_remember_50 rfl rfl ?_
          refine j_icmp_ne (p2 := 55) (tg := 117) dT_remember_52 rfl (by decide) (by rw [eN] at h10; rw [eK]; have := kb (by omega); constructor <;> omega) (by constructor <;> omega) (fun h52 => ?_) (fun h52 => ?_)
          · refine j_aload_n (p2 := 118) dT_remember_117 rfl rfl ?_
            refine j_getR (p2 := 121) dT_remember_118 rfl fa_T_49 ly_34 rfl ?_
            refine j_getR (p2 := 124) dT_remember_121 rfl fa_T_119 ly_3 rfl ?_
            refine j_iload_n (p2 := 125) dT_remember_124 rfl rfl ?_
            refine j_iald (p2 := 126) dT_remember_125 rfl ly_4 (by decide) (by omega) (by rw [eN] at h10; omega) ?_
            refine j_bipush (v := 13) (p2 := 128) dT_remember_126 rfl rfl ?_
            refine j_icmp_ne (p2 := 131) (tg := 170) dT_remember_128 rfl (by decide) (by rw [eN] at h10; rw [eK]; have := kb (by omega); constructor <;> omega) (by constructor <;> omega) (fun h128 => ?_) (fun h128 => ?_)
            · refine j_iinc (p2 := 173) (lv' := [(0, _), (1, _)]) dT_remember_170 rfl (Nat.le_of_ble_eq_true rfl) rfl ⟨rfl, rfl, trivial⟩ ?_
              refine j_goto (p2 := 2) dT_remember_173 (by decide) ?_
              refine J.loc (lv' := [(0, _), (1, _)]) ⟨rfl, rfl, trivial⟩ ?_
              rw [eN] at h10
              rw [eK] at h23
              first
                | (have g : hI σ 4 i = 3 := h23
                   exact trk (by omega) g)
                | (rw [eK] at h52 h128
                   exact no (by omega) h23 h52 h128)
            · refine J.loc (lv' := [(0, _), (1, _)]) ⟨rfl, rfl, trivial⟩ ?_
              rw [eN] at h10
              have g : hI σ 4 i = 13 := by rw [← eK]; exact h128
              exact at131 (by omega) g
          · refine J.loc (lv' := [(0, _), (1, _)]) ⟨rfl, rfl, trivial⟩ ?_
            rw [eN] at h10
            have g : hI σ 4 i = 11 := by rw [← eK]; exact h52
            exact at55 (by omega) g
        · refine j_aload_n (p2 := 27) dT_remember_26 rfl rfl ?_
          refine j_getR (p2 := 30) dT_remember_27 rfl fa_T_18 ly_34 rfl ?_
          refine j_iload_n (p2 := 31) dT_remember_30 rfl rfl ?_
          refine j_aload_n (p2 := 32) dT_remember_31 rfl rfl ?_
          refine j_getR (p2 := 35) dT_remember_32 rfl fa_T_34 ly_34 rfl ?_
          refine j_iload_n (p2 := 36) dT_remember_35 rfl rfl ?_
          refine j_dald (p2 := 37) dT_remember_36 rfl ly_42 (by decide) (by omega) (by rw [eN] at h10; omega) ?_
          refine j_dastk (p2 := 38) dT_remember_37 rfl ly_37 (by decide) (by omega) (by rw [eN] at h10; omega) ?_
          refine j_goto (p2 := 170) dT_remember_38 (by decide) ?_
          refine j_iinc (p2 := 173) (lv' := [(0, _), (1, _)]) dT_remember_170 rfl (Nat.le_of_ble_eq_true rfl) rfl ⟨rfl, rfl, trivial⟩ ?_
          refine j_goto (p2 := 2) dT_remember_173 (by decide) ?_
          refine J.loc (lv' := [(0, _), (1, _)]) ⟨rfl, rfl, trivial⟩ ?_
          rw [eN] at h10
          rw [eK] at h23
          first
            | (have g : hI σ 4 i = 3 := h23
               exact trk (by omega) g)
            | (rw [eK] at h52 h128
               exact no (by omega) h23 h52 h128)
  have start := loop (N + 1) 0 (by omega) (by omega) (hD σ 37) (hD σ 38) (hI σ 39) (hI σ 40) (fun m x y => by rw [pw_0]; exact hst m x y) (fun m x y w => ⟨fun q => absurd q (by omega), fun _ => (hrg m x y w).1⟩) (fun m x y w => by rw [pw_0]; exact hsd m x y w)
  rw [rmf_0] at start
  refine j_iconst (p2 := 1) dT_remember_0 rfl ?_
  refine j_istore_n (p2 := 2) (lv' := [(0, _), (1, _)]) dT_remember_1 rfl (Nat.le_of_ble_eq_true rfl) ⟨rfl, rfl, trivial⟩ ?_
  refine J.loc (lv' := [(0, _), (1, _)]) ⟨rfl, rfl, trivial⟩ ?_
  exact start
theorem cTt_keepComing {fr : Int → Int} {r st : Int → UInt64} {N : Nat} (hc : CtI σ fr N) (hr : Rdt σ r N) (hst : ∀ m : Int, 0 ≤ m → m < N → hD σ 59 m = cvD (st m) ∧ BdD (st m)) (hp : PatW σ fr N)
    (hQ : ∀ a, (∀ m : Int, 0 ≤ m → m < N → hI σ 4 m = 3 ∨ hI σ 4 m = 11 → a m = cvD (gnx arD (hI σ 4) fr (hI σ 10) r st m) ∧ BdD (gnx arD (hI σ 4) fr (hI σ 10) r st m)) → Q none (wD σ 64 a)) : Sp mT_keepComing [vR 56] σ Q := by
  have hN := hc.1
  have hN2 := hc.2.1
  have loop : ∀ (n i : Nat), i ≤ N → N + 1 ≤ i + n → ∀ a, (∀ m : Int, 0 ≤ m → m < i → hI σ 4 m = 3 ∨ hI σ 4 m = 11 → a m = cvD (gnx arD (hI σ 4) fr (hI σ 10) r st m) ∧ BdD (gnx arD (hI σ 4) fr (hI σ 10) r st m)) → J mT_keepComing 2 [(0, vR 56), (1, vI i)] [] (wD σ 64 a) Q := by
    intro n
    induction n with
    | zero => intro i h1 h2; exact absurd h2 (by omega)
    | succ n ih =>
      intro i i1 i2 a ha
      obtain ⟨τ, hτ⟩ : ∃ τ, τ = wD σ 64 a := ⟨_, rfl⟩
      have eN : hI τ 3 0 = N := by rw [hτ]; exact hN
      have eK : hI τ 4 = hI σ 4 := by rw [hτ]; rfl
      have eC : hD τ 64 = a := by rw [hτ]; rfl
      have eS : hD τ 59 = hD σ 59 := by rw [hτ]; rfl
      have e10 : hI τ 10 = hI σ 10 := by rw [hτ]; rfl
      have hcτ : CtI τ fr N := by rw [hτ]; exact hc
      have hrτ : Rdt τ r N := by rw [hτ]; exact hr
      have kb : i < N → 0 ≤ hI σ 4 i ∧ hI σ 4 i < 14 := fun h => hc.2.2.1 i (by omega) (by omega)
      have hgi : i < N → ∀ j : Int, 0 ≤ j → j < 6 → ¬ fr (6 * i + j) = -1 → ga arD fr (hI σ 10) r i j = gin arD fr (hI σ 10) r i j ∧ BdD (gin arD fr (hI σ 10) r i j) := fun z j j0 j1 g => by
        have e : ga arD fr (hI σ 10) r i j = gin arD fr (hI σ 10) r i j := if_neg g
        refine ⟨e, ?_⟩
        rw [← e]
        exact ga_bdD (hc.2.2.2 i j (by omega) (by omega) j0 j1).2.1 (fun k x y => (hr k x y).2)
      have no : i < N → ¬ hI σ 4 i = 3 → ¬ hI σ 4 i = 11 → J mT_keepComing 2 [(0, vR 56), (1, vI (i + 1))] [] τ Q := fun z g g2 => by
        rw [hτ]
        exact ih (i + 1) (by omega) (by omega) a (fun m x y w => by
          by_cases e : m = i
          · subst e; rcases w with w | w
            · exact absurd w g
            · exact absurd w g2
          · exact ha m x (by omega) w)
      have yes : i < N → ∀ y, y = gnx arD (hI σ 4) fr (hI σ 10) r st i → BdD y → J mT_keepComing 2 [(0, vR 56), (1, vI (i + 1))] [] (wD τ 64 (fup (hD τ 64) i (cvD y))) Q := fun z y hy hb => by
        rw [eC, hτ, wD_wD]
        refine ih (i + 1) (by omega) (by omega) _ (fun m x y0 w => ?_)
        by_cases e : m = i
        · subst e; rw [fup_s, ← hy]; exact ⟨rfl, hb⟩
        · rw [fup_n e]; exact ha m x (by omega) w
      clear ih
      rw [← hτ]
      have hpi : i < N → _ := fun z => hp i (by omega) (by omega)
      have trk : i < N → hI σ 4 i = 3 → J mT_keepComing 26 [(0, vR 56), (1, vI i)] [] τ Q := by
        intro z g
        obtain ⟨f0, f1⟩ := (hpi z).2.2.1 g
        obtain ⟨a0, b0⟩ := hgi z 0 (by omega) (by omega) f0
        obtain ⟨a1, b1⟩ := hgi z 1 (by omega) (by omega) f1
        obtain ⟨s1, s2⟩ := hst i (by omega) (by omega)
        have c1 := cmp0D (bd_nnD b1)
        have gx : gnx arD (hI σ 4) fr (hI σ 10) r st i = if Acm arD (gin arD fr (hI σ 10) r i 1) (Ac arD 0) = some .gt then gin arD fr (hI σ 10) r i 0 else st i := if_pos g
        have y1 : Acm arD (gin arD fr (hI σ 10) r i 1) (Ac arD 0) = some .gt → J mT_keepComing 2 [(0, vR 56), (1, vI (i + 1))] [] (wD τ 64 (fup (hD τ 64) i (cvD (gin arD fr (hI σ 10) r i 0)))) Q := fun w => yes z _ (by rw [gx, if_pos w]) b0
        have y2 : ¬ Acm arD (gin arD fr (hI σ 10) r i 1) (Ac arD 0) = some .gt → J mT_keepComing 2 [(0, vR 56), (1, vI (i + 1))] [] (wD τ 64 (fup (hD τ 64) i (hD τ 59 i))) Q := fun w => by
          rw [eS, s1]
          exact yes z _ (by rw [gx, if_neg w]) s2
        refine j_aload_n (p2 := 27) dT_keepComing_26 rfl rfl ?_
        refine j_getR (p2 := 30) dT_keepComing_27 rfl fa_T_34 ly_56 rfl ?_
        refine j_iload_n (p2 := 31) dT_keepComing_30 rfl rfl ?_
        refine j_aload_n (p2 := 32) dT_keepComing_31 rfl rfl ?_
        refine j_iload_n (p2 := 33) dT_keepComing_32 rfl rfl ?_
        refine j_iconst (p2 := 34) dT_keepComing_33 rfl ?_
        refine j_callV (m' := mT_in) (As := [_, _]) (p2 := 37) dT_keepComing_34 rfl ml_T_134 ok_mT_in im_mT_in se_mT_in rfl rfl (Nat.le_of_ble_eq_true rfl) ly_56 rfl (Nat.le_of_ble_eq_true rfl) ⟨(Nat.le_of_ble_eq_true rfl), (Nat.le_of_ble_eq_true rfl)⟩ ?_
        refine cTt_in hcτ (by omega) (by omega) hrτ ?_
        rw [e10, a1]
        refine j_dconst0 (p2 := 38) dT_keepComing_37 rfl ?_
        refine j_dcmp_l_le (p1 := 39) (p2 := 42) (tg := 51) dT_keepComing_38 rfl dT_keepComing_39 rfl (by decide) (fun h38 => ?_) (fun h38 => ?_)
        · refine j_aload_n (p2 := 52) dT_keepComing_51 rfl rfl ?_
          refine j_getR (p2 := 55) dT_keepComing_52 rfl fa_T_18 ly_56 rfl ?_
          refine j_iload_n (p2 := 56) dT_keepComing_55 rfl rfl ?_
          refine j_dald (p2 := 57) dT_keepComing_56 rfl ly_59 (by decide) (by omega) (by omega) ?_
          refine j_dastk (p2 := 58) dT_keepComing_57 rfl ly_64 (by decide) (by omega) (by omega) ?_
          refine j_goto (p2 := 87) dT_keepComing_58 (by decide) ?_
          refine j_iinc (p2 := 90) (lv' := [(0, _), (1, _)]) dT_keepComing_87 rfl (Nat.le_of_ble_eq_true rfl) rfl ⟨rfl, rfl, trivial⟩ ?_
          refine j_goto (p2 := 2) dT_keepComing_90 (by decide) ?_
          refine J.loc (lv' := [(0, _), (1, _)]) ⟨rfl, rfl, trivial⟩ ?_
          rw [c1] at h38
          first
            | (have w : Acm arD (gin arD fr (hI σ 10) r i 1) (Ac arD 0) = some .gt := h38
               exact y1 w)
            | (have w : ¬ Acm arD (gin arD fr (hI σ 10) r i 1) (Ac arD 0) = some .gt := h38
               exact y2 w)
        · refine j_aload_n (p2 := 43) dT_keepComing_42 rfl rfl ?_
          refine j_iload_n (p2 := 44) dT_keepComing_43 rfl rfl ?_
          refine j_iconst (p2 := 45) dT_keepComing_44 rfl ?_
          refine j_callV (m' := mT_in) (As := [_, _]) (p2 := 48) dT_keepComing_45 rfl ml_T_134 ok_mT_in im_mT_in se_mT_in rfl rfl (Nat.le_of_ble_eq_true rfl) ly_56 rfl (Nat.le_of_ble_eq_true rfl) ⟨(Nat.le_of_ble_eq_true rfl), (Nat.le_of_ble_eq_true rfl)⟩ ?_
          refine cTt_in hcτ (by omega) (by omega) hrτ ?_
          rw [e10, a0]
          refine j_goto (p2 := 57) dT_keepComing_48 (by decide) ?_
          refine j_dastk (p2 := 58) dT_keepComing_57 rfl ly_64 (by decide) (by omega) (by omega) ?_
          refine j_goto (p2 := 87) dT_keepComing_58 (by decide) ?_
          refine j_iinc (p2 := 90) (lv' := [(0, _), (1, _)]) dT_keepComing_87 rfl (Nat.le_of_ble_eq_true rfl) rfl ⟨rfl, rfl, trivial⟩ ?_
          refine j_goto (p2 := 2) dT_keepComing_90 (by decide) ?_
          refine J.loc (lv' := [(0, _), (1, _)]) ⟨rfl, rfl, trivial⟩ ?_
          rw [c1] at h38
          first
            | (have w : Acm arD (gin arD fr (hI σ 10) r i 1) (Ac arD 0) = some .gt := h38
               exact y1 w)
            | (have w : ¬ Acm arD (gin arD fr (hI σ 10) r i 1) (Ac arD 0) = some .gt := h38
               exact y2 w)
      have dly : i < N → hI σ 4 i = 11 → J mT_keepComing 75 [(0, vR 56), (1, vI i)] [] τ Q := by
        intro z g
        obtain ⟨a0, b0⟩ := hgi z 0 (by omega) (by omega) ((hpi z).2.2.2 g)
        have y1 := yes z (gin arD fr (hI σ 10) r i 0) (by unfold gnx; rw [if_neg (by omega)]) b0
        refine j_aload_n (p2 := 76) dT_keepComing_75 rfl rfl ?_
        refine j_getR (p2 := 79) dT_keepComing_76 rfl fa_T_34 ly_56 rfl ?_
        refine j_iload_n (p2 := 80) dT_keepComing_79 rfl rfl ?_
        refine j_aload_n (p2 := 81) dT_keepComing_80 rfl rfl ?_
        refine j_iload_n (p2 := 82) dT_keepComing_81 rfl rfl ?_
        refine j_iconst (p2 := 83) dT_keepComing_82 rfl ?_
        refine j_callV (m' := mT_in) (As := [_, _]) (p2 := 86) dT_keepComing_83 rfl ml_T_134 ok_mT_in im_mT_in se_mT_in rfl rfl (Nat.le_of_ble_eq_true rfl) ly_56 rfl (Nat.le_of_ble_eq_true rfl) ⟨(Nat.le_of_ble_eq_true rfl), (Nat.le_of_ble_eq_true rfl)⟩ ?_
        refine cTt_in hcτ (by omega) (by omega) hrτ ?_
        rw [e10, a0]
        refine j_dastk (p2 := 87) dT_keepComing_86 rfl ly_64 (by decide) (by omega) (by omega) ?_
        refine j_iinc (p2 := 90) (lv' := [(0, _), (1, _)]) dT_keepComing_87 rfl (Nat.le_of_ble_eq_true rfl) rfl ⟨rfl, rfl, trivial⟩ ?_
        refine j_goto (p2 := 2) dT_keepComing_90 (by decide) ?_
        refine J.loc (lv' := [(0, _), (1, _)]) ⟨rfl, rfl, trivial⟩ ?_
        exact y1
      refine j_iload_n (p2 := 3) dT_keepComing_2 rfl rfl ?_
      refine j_aload_n (p2 := 4) dT_keepComing_3 rfl rfl ?_
      refine j_getR (p2 := 7) dT_keepComing_4 rfl fa_T_49 ly_56 rfl ?_
      refine j_getIk (p2 := 10) dT_keepComing_7 rfl fa_T_65 ly_3 rfl (ki := 0) rfl ?_
      refine j_icmp_ge (p2 := 13) (tg := 93) dT_keepComing_10 rfl (by decide) (by constructor <;> omega) (by rw [eN]; constructor <;> omega) (fun h10 => ?_) (fun h10 => ?_)
      · refine j_return dT_keepComing_93 rfl (by rw [eN] at h10; have e : i = N := (by omega); subst e; rw [hτ]; exact hQ a ha)
      · refine j_aload_n (p2 := 14) dT_keepComing_13 rfl rfl ?_
        refine j_getR (p2 := 17) dT_keepComing_14 rfl fa_T_49 ly_56 rfl ?_
        refine j_getR (p2 := 20) dT_keepComing_17 rfl fa_T_119 ly_3 rfl ?_
        refine j_iload_n (p2 := 21) dT_keepComing_20 rfl rfl ?_
        refine j_iald (p2 := 22) dT_keepComing_21 rfl ly_4 (by decide) (by omega) (by rw [eN] at h10; omega) ?_
        refine j_iconst (p2 := 23) dT_keepComing_22 rfl ?_
        refine j_icmp_ne (p2 := 26) (tg := 61) dT_keepComing_23 rfl (by decide) (by rw [eN] at h10; rw [eK]; have := kb (by omega); constructor <;> omega) (by constructor <;> omega) (fun h23 => ?_) (fun h23 => ?_)
        · refine j_aload_n (p2 := 62) dT_keepComing_61 rfl rfl ?_
          refine j_getR (p2 := 65) dT_keepComing_62 rfl fa_T_49 ly_56 rfl ?_
          refine j_getR (p2 := 68) dT_keepComing_65 rfl fa_T_119 ly_3 rfl ?_
          refine j_iload_n (p2 := 69) dT_keepComing_68 rfl rfl ?_
          refine j_iald (p2 := 70) dT_keepComing_69 rfl ly_4 (by decide) (by omega) (by rw [eN] at h10; omega) ?_
          refine j_bipush (v := 11) (p2 := 72) dT_keepComing_70 rfl rfl ?_
          refine j_icmp_ne (p2 := 75) (tg := 87) dT_keepComing_72 rfl (by decide) (by rw [eN] at h10; rw [eK]; have := kb (by omega); constructor <;> omega) (by constructor <;> omega) (fun h72 => ?_) (fun h72 => ?_)
          · refine j_iinc (p2 := 90) (lv' := [(0, _), (1, _)]) dT_keepComing_87 rfl (Nat.le_of_ble_eq_true rfl) rfl ⟨rfl, rfl, trivial⟩ ?_
            refine j_goto (p2 := 2) dT_keepComing_90 (by decide) ?_
            refine J.loc (lv' := [(0, _), (1, _)]) ⟨rfl, rfl, trivial⟩ ?_
            rw [eN] at h10
            rw [eK] at h23 h72
            exact no (by omega) h23 h72
          · refine J.loc (lv' := [(0, _), (1, _)]) ⟨rfl, rfl, trivial⟩ ?_
            rw [eN] at h10
            have g : hI σ 4 i = 11 := by rw [← eK]; exact h72
            exact dly (by omega) g
        · refine J.loc (lv' := [(0, _), (1, _)]) ⟨rfl, rfl, trivial⟩ ?_
          rw [eN] at h10
          have g : hI σ 4 i = 3 := by rw [← eK]; exact h23
          exact trk (by omega) g
  have start := loop (N + 1) 0 (by omega) (by omega) (hD σ 64) (fun m x y => absurd y (by omega))
  rw [wD_id] at start
  refine j_iconst (p2 := 1) dT_keepComing_0 rfl ?_
  refine j_istore_n (p2 := 2) (lv' := [(0, _), (1, _)]) dT_keepComing_1 rfl (Nat.le_of_ble_eq_true rfl) ⟨rfl, rfl, trivial⟩ ?_
  refine J.loc (lv' := [(0, _), (1, _)]) ⟨rfl, rfl, trivial⟩ ?_
  exact start
def rmt (σ : Hp) (S R : Int → UInt64) (O D : Int → Int) : Hp := wI (wI (wD (wD σ 59 S) 60 R) 61 O) 62 D
theorem rmt_1 {S S' R : Int → UInt64} {O D : Int → Int} : wD (rmt σ S R O D) 59 S' = rmt σ S' R O D := by
  unfold rmt
  apply hp_ext <;> intro x <;> simp only [hI_wI, hI_wL, hI_wF, hI_wD, hL_wI, hL_wL, hL_wF, hL_wD, hF_wI, hF_wL, hF_wF, hF_wD, hD_wI, hD_wL, hD_wF, hD_wD]
  by_cases h1 : x = 59 <;> by_cases h2 : x = 60 <;> simp_all
theorem rmt_2 {S R R' : Int → UInt64} {O O' D : Int → Int} : wI (wD (rmt σ S R O D) 60 R') 61 O' = rmt σ S R' O' D := by
  unfold rmt
  apply hp_ext <;> intro x <;> simp only [hI_wI, hI_wL, hI_wF, hI_wD, hL_wI, hL_wL, hL_wF, hL_wD, hF_wI, hF_wL, hF_wF, hF_wD, hD_wI, hD_wL, hD_wF, hD_wD]
  · by_cases h1 : x = 61 <;> by_cases h2 : x = 62 <;> simp_all
  · by_cases h1 : x = 59 <;> by_cases h2 : x = 60 <;> simp_all
theorem rmt_3 {S S' R : Int → UInt64} {O D D' : Int → Int} : wD (wI (rmt σ S R O D) 62 D') 59 S' = rmt σ S' R O D' := by
  unfold rmt
  apply hp_ext <;> intro x <;> simp only [hI_wI, hI_wL, hI_wF, hI_wD, hL_wI, hL_wL, hL_wF, hL_wD, hF_wI, hF_wL, hF_wF, hF_wD, hD_wI, hD_wL, hD_wF, hD_wD]
  · by_cases h1 : x = 61 <;> by_cases h2 : x = 62 <;> simp_all
  · by_cases h1 : x = 59 <;> by_cases h2 : x = 60 <;> simp_all
theorem rmt_0 : rmt σ (hD σ 59) (hD σ 60) (hI σ 61) (hI σ 62) = σ := by
  unfold rmt
  rw [wD_id, wD_id, wI_id, wI_id]
theorem cTt_remember {fr : Int → Int} {st nx row : Int → UInt64} {nn sd : Int → Int} {N : Nat} (hc : CtI σ fr N) (hfl : hI σ 56 3 = 0) (hst : ∀ m : Int, 0 ≤ m → m < N → hD σ 59 m = cvD (st m) ∧ BdD (st m)) (hco : ∀ m : Int, 0 ≤ m → m < N → hI σ 4 m = 3 ∨ hI σ 4 m = 11 → hD σ 64 m = cvD (nx m) ∧ BdD (nx m)) (hrg : ∀ m : Int, 0 ≤ m → m < N → hI σ 4 m = 11 → RgXD (hD σ 60) (hI σ 61) nn row m ∧ SCmp (hD σ 58 m) (nn m)) (hsd : ∀ m : Int, 0 ≤ m → m < N → hI σ 4 m = 13 → hI σ 62 m = sd m)
    (hQ : ∀ S R O D, (∀ m : Int, 0 ≤ m → m < N → S m = cvD (pw st (othS (hI σ 4) nx st (fun m => zcD (sdS (hI σ 4) sd m))) N m) ∧ BdD (pw st (othS (hI σ 4) nx st (fun m => zcD (sdS (hI σ 4) sd m))) N m)) → (∀ m : Int, 0 ≤ m → m < N → hI σ 4 m = 11 → RgXD R O nn (pw row (rowS (hI σ 4) nn row nx) (16 * N)) m) → (∀ m : Int, 0 ≤ m → m < N → hI σ 4 m = 13 → D m = pw sd (sdS (hI σ 4) sd) N m) → Q none (rmt σ S R O D)) : Sp mT_remember [vR 56] σ Q := by
  have hN := hc.1
  have hN2 := hc.2.1
  have loop : ∀ (n i : Nat), i ≤ N → N + 1 ≤ i + n → ∀ S R O D, (∀ m : Int, 0 ≤ m → m < N → S m = cvD (pw st (othS (hI σ 4) nx st (fun m => zcD (sdS (hI σ 4) sd m))) i m) ∧ BdD (pw st (othS (hI σ 4) nx st (fun m => zcD (sdS (hI σ 4) sd m))) i m)) → (∀ m : Int, 0 ≤ m → m < N → hI σ 4 m = 11 → (m < i → RgXD R O nn (pw row (rowS (hI σ 4) nn row nx) (16 * N)) m) ∧ (i ≤ m → RgXD R O nn row m)) → (∀ m : Int, 0 ≤ m → m < N → hI σ 4 m = 13 → D m = pw sd (sdS (hI σ 4) sd) i m) → J mT_remember 2 [(0, vR 56), (1, vI i)] [] (rmt σ S R O D) Q := by
    intro n
    induction n with
    | zero => intro i h1 h2; exact absurd h2 (by omega)
    | succ n ih =>
      intro i i1 i2 S R O D hS hR hD_
      obtain ⟨τ, hτ⟩ : ∃ τ, τ = rmt σ S R O D := ⟨_, rfl⟩
      have eN : hI τ 3 0 = N := by rw [hτ]; exact hN
      have eK : hI τ 4 = hI σ 4 := by rw [hτ]; rfl
      have eC : hD τ 64 = hD σ 64 := by rw [hτ]; rfl
      have eE : hD τ 58 = hD σ 58 := by rw [hτ]; rfl
      have eS : hD τ 59 = S := by rw [hτ]; rfl
      have eR : hD τ 60 = R := by rw [hτ]; rfl
      have eO : hI τ 61 = O := by rw [hτ]; rfl
      have eD : hI τ 62 = D := by rw [hτ]; rfl
      have efl : hI τ 56 3 = 0 := by rw [hτ]; exact hfl
      have kb : i < N → 0 ≤ hI σ 4 i ∧ hI σ 4 i < 14 := fun h => hc.2.2.1 i (by omega) (by omega)
      have kpS : ¬ hI σ 4 i = 3 → ¬ hI σ 4 i = 13 → pw st (othS (hI σ 4) nx st (fun m => zcD (sdS (hI σ 4) sd m))) (i + 1) = pw st (othS (hI σ 4) nx st (fun m => zcD (sdS (hI σ 4) sd m))) i := fun g g2 => pw_k2 (by unfold othS; rw [if_neg g, if_neg g2])
      have kpD : ¬ hI σ 4 i = 13 → pw sd (sdS (hI σ 4) sd) (i + 1) = pw sd (sdS (hI σ 4) sd) i := fun g => pw_k2 (by unfold sdS; rw [if_neg g])
      have kpR : ¬ hI σ 4 i = 11 → ∀ m : Int, 0 ≤ m → m < N → hI σ 4 m = 11 → (m < ((i + 1 : Nat) : Int) → RgXD R O nn (pw row (rowS (hI σ 4) nn row nx) (16 * N)) m) ∧ (((i + 1 : Nat) : Int) ≤ m → RgXD R O nn row m) := fun g m x y w => by
        refine ⟨fun q => ?_, fun q => (hR m x y w).2 (by omega)⟩
        by_cases e : m = i
        · subst e; exact absurd w g
        · exact (hR m x y w).1 (by omega)
      have no : i < N → ¬ hI σ 4 i = 3 → ¬ hI σ 4 i = 11 → ¬ hI σ 4 i = 13 → J mT_remember 2 [(0, vR 56), (1, vI (i + 1))] [] τ Q := fun z g g2 g3 => by
        rw [hτ]
        exact ih (i + 1) (by omega) (by omega) S R O D (fun m x y => by rw [kpS g g3]; exact hS m x y) (kpR g2) (fun m x y w => by rw [kpD g3]; exact hD_ m x y w)
      have trk : i < N → hI σ 4 i = 3 → J mT_remember 2 [(0, vR 56), (1, vI (i + 1))] [] (wD τ 59 (fup (hD τ 59) i (hD τ 64 i))) Q := fun z g => by
        obtain ⟨c1, c2⟩ := hco i (by omega) (by omega) (Or.inl g)
        rw [eS, eC, c1, hτ, rmt_1]
        refine ih (i + 1) (by omega) (by omega) _ R O D (fun m x y => ?_) (kpR (by omega)) (fun m x y w => by rw [kpD (by omega)]; exact hD_ m x y w)
        rw [← pw_s]
        have e1 : othS (hI σ 4) nx st (fun m => zcD (sdS (hI σ 4) sd m)) i = nx i := if_pos g
        rw [e1]
        unfold fup
        by_cases e : m = i
        · rw [if_pos e, if_pos e]; exact ⟨rfl, c2⟩
        · rw [if_neg e, if_neg e]; exact hS m x y
      have dly : i < N → hI σ 4 i = 11 → ∀ o, o = (if O i + 1 < nn i then O i + 1 else 0) → J mT_remember 2 [(0, vR 56), (1, vI (i + 1))] [] (wI (wD τ 60 (fup R (i * 16 + O i) (hD σ 64 i))) 61 (fup O i o)) Q := fun z g o ho => by
        obtain ⟨c1, c2⟩ := hco i (by omega) (by omega) (Or.inr g)
        rw [c1, hτ, rmt_2]
        have hRi := (hR i (by omega) (by omega) g).2 (by omega)
        have hO16 : 0 ≤ O i ∧ O i < 16 := by have := hRi.1; have := hRi.2.1; omega
        refine ih (i + 1) (by omega) (by omega) S _ _ D (fun m x y => by rw [kpS (by omega) (by omega)]; exact hS m x y) (fun m x y w => ⟨fun q => ?_, fun q => ?_⟩) (fun m x y w => by rw [kpD (by omega)]; exact hD_ m x y w)
        · by_cases e : m = i
          · subst e
            exact rg_newD hRi (by omega) g c2 ho
          · exact rg_othD ((hR m x y w).1 (by omega)) e hO16
        · exact rg_othD ((hR m x y w).2 (by omega)) (by omega) hO16
      have noi : i < N → hI σ 4 i = 13 → J mT_remember 2 [(0, vR 56), (1, vI (i + 1))] [] (wD (wI τ 62 (fup D i (1664525 * D i + 1013904223))) 59 (fup S i (rndC false (nz (1664525 * D i + 1013904223))))) Q := fun z g => by
        have hDi := hD_ i (by omega) (by omega) g
        rw [pw_at] at hDi
        have e2 : sdS (hI σ 4) sd i = 1664525 * D i + 1013904223 := by unfold sdS; rw [if_pos g, hDi]
        rw [zcD_cv, hτ, rmt_3]
        refine ih (i + 1) (by omega) (by omega) _ R O _ (fun m x y => ?_) (kpR (by omega)) (fun m x y w => ?_)
        · rw [← pw_s]
          have e1 : othS (hI σ 4) nx st (fun m => zcD (sdS (hI σ 4) sd m)) i = zcD (1664525 * D i + 1013904223) := by
            unfold othS
            rw [if_neg (by omega), if_pos g]
            show zcD (sdS (hI σ 4) sd i) = _
            rw [e2]
          rw [e1]
          unfold fup
          by_cases e : m = i
          · rw [if_pos e, if_pos e]; exact ⟨rfl, zcD_bd _⟩
          · rw [if_neg e, if_neg e]; exact hS m x y
        · rw [← pw_s, e2]
          unfold fup
          by_cases e : m = i
          · rw [if_pos e, if_pos e]
          · rw [if_neg e, if_neg e]; exact hD_ m x y w
      clear ih
      rw [← hτ]
      have at55 : i < N → hI σ 4 i = 11 → J mT_remember 55 [(0, vR 56), (1, vI i)] [] τ Q := by
        intro z g
        have hRi := (hR i (by omega) (by omega) g).2 (by omega)
        have hO16 : 0 ≤ O i ∧ O i < 16 := by have := hRi.1; have := hRi.2.1; omega
        have hsc := (hrg i (by omega) (by omega) g).2 (O i) (by omega) (by omega)
        have eO2 : ∀ x, hI (wD τ 60 x) 61 = O := fun x => eO
        have eE2 : ∀ x, hD (wD τ 60 x) 58 = hD σ 58 := fun x => eE
        refine j_aload_n (p2 := 56) dT_remember_55 rfl rfl ?_
        refine j_getR (p2 := 59) dT_remember_56 rfl fa_T_21 ly_56 rfl ?_
        refine j_iload_n (p2 := 60) dT_remember_59 rfl rfl ?_
        refine j_bipush (v := 16) (p2 := 62) dT_remember_60 rfl rfl ?_
        refine j_imul (p2 := 63) dT_remember_62 rfl ?_
        refine j_aload_n (p2 := 64) dT_remember_63 rfl rfl ?_
        refine j_getR (p2 := 67) dT_remember_64 rfl fa_T_24 ly_56 rfl ?_
        refine j_iload_n (p2 := 68) dT_remember_67 rfl rfl ?_
        refine j_iald (p2 := 69) dT_remember_68 rfl ly_61 (by decide) (by omega) (by omega) ?_
        refine j_iadd (p2 := 70) dT_remember_69 rfl ?_
        refine j_aload_n (p2 := 71) dT_remember_70 rfl rfl ?_
        refine j_getR (p2 := 74) dT_remember_71 rfl fa_T_34 ly_56 rfl ?_
        refine j_iload_n (p2 := 75) dT_remember_74 rfl rfl ?_
        refine j_dald (p2 := 76) dT_remember_75 rfl ly_64 (by decide) (by omega) (by omega) ?_
        refine j_dastk (p2 := 77) dT_remember_76 rfl ly_60 (by decide) (by rw [eO]; omega) (by rw [eO]; omega) ?_
        refine j_aload_n (p2 := 78) dT_remember_77 rfl rfl ?_
        refine j_getR (p2 := 81) dT_remember_78 rfl fa_T_24 ly_56 rfl ?_
        refine j_iload_n (p2 := 82) dT_remember_81 rfl rfl ?_
        refine j_aload_n (p2 := 83) dT_remember_82 rfl rfl ?_
        refine j_getR (p2 := 86) dT_remember_83 rfl fa_T_24 ly_56 rfl ?_
        refine j_iload_n (p2 := 87) dT_remember_86 rfl rfl ?_
        refine j_iald (p2 := 88) dT_remember_87 rfl ly_61 (by decide) (by omega) (by omega) ?_
        refine j_iconst (p2 := 89) dT_remember_88 rfl ?_
        refine j_iadd (p2 := 90) dT_remember_89 rfl ?_
        refine j_i2d (p2 := 91) dT_remember_90 rfl ?_
        refine j_aload_n (p2 := 92) dT_remember_91 rfl rfl ?_
        refine j_getR (p2 := 95) dT_remember_92 rfl fa_T_15 ly_56 rfl ?_
        refine j_iload_n (p2 := 96) dT_remember_95 rfl rfl ?_
        refine j_dald (p2 := 97) dT_remember_96 rfl ly_58 (by decide) (by omega) (by omega) ?_
        refine j_dcmp_g_ge (p1 := 98) (p2 := 101) (tg := 112) dT_remember_97 rfl dT_remember_98 rfl (by decide) (fun h97 => ?_) (fun h97 => ?_)
        · refine j_iconst (p2 := 113) dT_remember_112 rfl ?_
          refine j_iastk (p2 := 114) dT_remember_113 rfl ly_61 (by decide) (by omega) (by omega) ?_
          refine j_goto (p2 := 170) dT_remember_114 (by decide) ?_
          refine j_iinc (p2 := 173) (lv' := [(0, _), (1, _)]) dT_remember_170 rfl (Nat.le_of_ble_eq_true rfl) rfl ⟨rfl, rfl, trivial⟩ ?_
          refine j_goto (p2 := 2) dT_remember_173 (by decide) ?_
          refine J.loc (lv' := [(0, _), (1, _)]) ⟨rfl, rfl, trivial⟩ ?_
          rw [eO2, eE2] at h97
          rw [eO2, eR, eO, eC]
          first
            | (have w := hsc.mp h97
               exact dly z g _ (by rw [if_pos w]))
            | (have w : ¬ O i + 1 < nn i := fun q => h97 (hsc.mpr q)
               exact dly z g _ (by rw [if_neg w]))
        · refine j_aload_n (p2 := 102) dT_remember_101 rfl rfl ?_
          refine j_getR (p2 := 105) dT_remember_102 rfl fa_T_24 ly_56 rfl ?_
          refine j_iload_n (p2 := 106) dT_remember_105 rfl rfl ?_
          refine j_iald (p2 := 107) dT_remember_106 rfl ly_61 (by decide) (by omega) (by omega) ?_
          refine j_iconst (p2 := 108) dT_remember_107 rfl ?_
          refine j_iadd (p2 := 109) dT_remember_108 rfl ?_
          refine j_goto (p2 := 113) dT_remember_109 (by decide) ?_
          refine j_iastk (p2 := 114) dT_remember_113 rfl ly_61 (by decide) (by omega) (by omega) ?_
          refine j_goto (p2 := 170) dT_remember_114 (by decide) ?_
          refine j_iinc (p2 := 173) (lv' := [(0, _), (1, _)]) dT_remember_170 rfl (Nat.le_of_ble_eq_true rfl) rfl ⟨rfl, rfl, trivial⟩ ?_
          refine j_goto (p2 := 2) dT_remember_173 (by decide) ?_
          refine J.loc (lv' := [(0, _), (1, _)]) ⟨rfl, rfl, trivial⟩ ?_
          rw [eO2, eE2] at h97
          rw [eO2, eR, eO, eC]
          first
            | (have w := hsc.mp h97
               exact dly z g _ (by rw [if_pos w]))
            | (have w : ¬ O i + 1 < nn i := fun q => h97 (hsc.mpr q)
               exact dly z g _ (by rw [if_neg w]))
      have at131 : i < N → hI σ 4 i = 13 → J mT_remember 131 [(0, vR 56), (1, vI i)] [] τ Q := by
        intro z g
        have eD2 : ∀ x, hI (wI τ 62 x) 62 = x := fun x => rfl
        have eS2 : ∀ x, hD (wI τ 62 x) 59 = S := fun x => eS
        have hn := noi z g
        refine j_aload_n (p2 := 132) dT_remember_131 rfl rfl ?_
        refine j_getR (p2 := 135) dT_remember_132 rfl fa_T_28 ly_56 rfl ?_
        refine j_iload_n (p2 := 136) dT_remember_135 rfl rfl ?_
        refine j_ldc (p2 := 138) dT_remember_136 rfl cw_T_138 ?_
        refine j_aload_n (p2 := 139) dT_remember_138 rfl rfl ?_
        refine j_getR (p2 := 142) dT_remember_139 rfl fa_T_28 ly_56 rfl ?_
        refine j_iload_n (p2 := 143) dT_remember_142 rfl rfl ?_
        refine j_iald (p2 := 144) dT_remember_143 rfl ly_62 (by decide) (by omega) (by omega) ?_
        refine j_imul (p2 := 145) dT_remember_144 rfl ?_
        refine j_ldc (p2 := 147) dT_remember_145 rfl cw_T_139 ?_
        refine j_iadd (p2 := 148) dT_remember_147 rfl ?_
        refine j_iastk (p2 := 149) dT_remember_148 rfl ly_62 (by decide) (by omega) (by omega) ?_
        refine j_aload_n (p2 := 150) dT_remember_149 rfl rfl ?_
        refine j_getR (p2 := 153) dT_remember_150 rfl fa_T_18 ly_56 rfl ?_
        refine j_iload_n (p2 := 154) dT_remember_153 rfl rfl ?_
        refine j_aload_n (p2 := 155) dT_remember_154 rfl rfl ?_
        refine j_aload_n (p2 := 156) dT_remember_155 rfl rfl ?_
        refine j_getR (p2 := 159) dT_remember_156 rfl fa_T_28 ly_56 rfl ?_
        refine j_iload_n (p2 := 160) dT_remember_159 rfl rfl ?_
        refine j_iald (p2 := 161) dT_remember_160 rfl ly_62 (by decide) (by omega) (by omega) ?_
        refine j_i2d (p2 := 162) dT_remember_161 rfl ?_
        refine j_ldc2d (p2 := 165) dT_remember_162 rfl cw_T_140 ?_
        refine j_ddiv (p2 := 166) dT_remember_165 rfl (by rw [eD2, fup_s]; exact (mg_15 (nz_15 _)).nn (by decide)) ?_
        refine j_callV (m' := mT_rounded) (As := [_]) (p2 := 169) dT_remember_166 rfl ml_T_74 ok_mT_rounded im_mT_rounded se_mT_rounded rfl rfl (Nat.le_of_ble_eq_true rfl) ly_56 rfl (Nat.le_of_ble_eq_true rfl) ⟨(Nat.le_of_ble_eq_true rfl), (Nat.le_of_ble_eq_true rfl)⟩ ?_
        rw [eD2, fup_s]
        refine cTt_rounded efl ((mg_15 (nz_15 _)).nn (by decide)) ?_
        refine j_dastk (p2 := 170) dT_remember_169 rfl ly_59 (by decide) (by omega) (by omega) ?_
        refine j_iinc (p2 := 173) (lv' := [(0, _), (1, _)]) dT_remember_170 rfl (Nat.le_of_ble_eq_true rfl) rfl ⟨rfl, rfl, trivial⟩ ?_
        refine j_goto (p2 := 2) dT_remember_173 (by decide) ?_
        refine J.loc (lv' := [(0, _), (1, _)]) ⟨rfl, rfl, trivial⟩ ?_
        rw [eS2, eD]
        exact hn
      refine j_iload_n (p2 := 3) dT_remember_2 rfl rfl ?_
      refine j_aload_n (p2 := 4) dT_remember_3 rfl rfl ?_
      refine j_getR (p2 := 7) dT_remember_4 rfl fa_T_49 ly_56 rfl ?_
      refine j_getIk (p2 := 10) dT_remember_7 rfl fa_T_65 ly_3 rfl (ki := 0) rfl ?_
      refine j_icmp_ge (p2 := 13) (tg := 176) dT_remember_10 rfl (by decide) (by constructor <;> omega) (by rw [eN]; constructor <;> omega) (fun h10 => ?_) (fun h10 => ?_)
      · refine j_return dT_remember_176 rfl (by rw [eN] at h10; have e : i = N := (by omega); subst e; rw [hτ]; exact hQ S R O D hS (fun m x y w => (hR m x y w).1 y) hD_)
      · refine j_aload_n (p2 := 14) dT_remember_13 rfl rfl ?_
        refine j_getR (p2 := 17) dT_remember_14 rfl fa_T_49 ly_56 rfl ?_
        refine j_getR (p2 := 20) dT_remember_17 rfl fa_T_119 ly_3 rfl ?_
        refine j_iload_n (p2 := 21) dT_remember_20 rfl rfl ?_
        refine j_iald (p2 := 22) dT_remember_21 rfl ly_4 (by decide) (by omega) (by rw [eN] at h10; omega) ?_
        refine j_iconst (p2 := 23) dT_remember_22 rfl ?_
        refine j_icmp_ne (p2 := 26) (tg := 41) dT_remember_23 rfl (by decide) (by rw [eN] at h10; rw [eK]; have := kb (by omega); constructor <;> omega) (by constructor <;> omega) (fun h23 => ?_) (fun h23 => ?_)
        · refine j_aload_n (p2 := 42) dT_remember_41 rfl rfl ?_
          refine j_getR (p2 := 45) dT_remember_42 rfl fa_T_49 ly_56 rfl ?_
          refine j_getR (p2 := 48) dT_remember_45 rfl fa_T_119 ly_3 rfl ?_
          refine j_iload_n (p2 := 49) dT_remember_48 rfl rfl ?_
          refine j_iald (p2 := 50) dT_remember_49 rfl ly_4 (by decide) (by omega) (by rw [eN] at h10; omega) ?_
          refine j_bipush (v := 11) (p2 := 52) dT_remember_50 rfl rfl ?_
          refine j_icmp_ne (p2 := 55) (tg := 117) dT_remember_52 rfl (by decide) (by rw [eN] at h10; rw [eK]; have := kb (by omega); constructor <;> omega) (by constructor <;> omega) (fun h52 => ?_) (fun h52 => ?_)
          · refine j_aload_n (p2 := 118) dT_remember_117 rfl rfl ?_
            refine j_getR (p2 := 121) dT_remember_118 rfl fa_T_49 ly_56 rfl ?_
            refine j_getR (p2 := 124) dT_remember_121 rfl fa_T_119 ly_3 rfl ?_
            refine j_iload_n (p2 := 125) dT_remember_124 rfl rfl ?_
            refine j_iald (p2 := 126) dT_remember_125 rfl ly_4 (by decide) (by omega) (by rw [eN] at h10; omega) ?_
            refine j_bipush (v := 13) (p2 := 128) dT_remember_126 rfl rfl ?_
            refine j_icmp_ne (p2 := 131) (tg := 170) dT_remember_128 rfl (by decide) (by rw [eN] at h10; rw [eK]; have := kb (by omega); constructor <;> omega) (by constructor <;> omega) (fun h128 => ?_) (fun h128 => ?_)
            · refine j_iinc (p2 := 173) (lv' := [(0, _), (1, _)]) dT_remember_170 rfl (Nat.le_of_ble_eq_true rfl) rfl ⟨rfl, rfl, trivial⟩ ?_
              refine j_goto (p2 := 2) dT_remember_173 (by decide) ?_
              refine J.loc (lv' := [(0, _), (1, _)]) ⟨rfl, rfl, trivial⟩ ?_
              rw [eN] at h10
              rw [eK] at h23
              first
                | (have g : hI σ 4 i = 3 := h23
                   exact trk (by omega) g)
                | (rw [eK] at h52 h128
                   exact no (by omega) h23 h52 h128)
            · refine J.loc (lv' := [(0, _), (1, _)]) ⟨rfl, rfl, trivial⟩ ?_
              rw [eN] at h10
              have g : hI σ 4 i = 13 := by rw [← eK]; exact h128
              exact at131 (by omega) g
          · refine J.loc (lv' := [(0, _), (1, _)]) ⟨rfl, rfl, trivial⟩ ?_
            rw [eN] at h10
            have g : hI σ 4 i = 11 := by rw [← eK]; exact h52
            exact at55 (by omega) g
        · refine j_aload_n (p2 := 27) dT_remember_26 rfl rfl ?_
          refine j_getR (p2 := 30) dT_remember_27 rfl fa_T_18 ly_56 rfl ?_
          refine j_iload_n (p2 := 31) dT_remember_30 rfl rfl ?_
          refine j_aload_n (p2 := 32) dT_remember_31 rfl rfl ?_
          refine j_getR (p2 := 35) dT_remember_32 rfl fa_T_34 ly_56 rfl ?_
          refine j_iload_n (p2 := 36) dT_remember_35 rfl rfl ?_
          refine j_dald (p2 := 37) dT_remember_36 rfl ly_64 (by decide) (by omega) (by rw [eN] at h10; omega) ?_
          refine j_dastk (p2 := 38) dT_remember_37 rfl ly_59 (by decide) (by omega) (by rw [eN] at h10; omega) ?_
          refine j_goto (p2 := 170) dT_remember_38 (by decide) ?_
          refine j_iinc (p2 := 173) (lv' := [(0, _), (1, _)]) dT_remember_170 rfl (Nat.le_of_ble_eq_true rfl) rfl ⟨rfl, rfl, trivial⟩ ?_
          refine j_goto (p2 := 2) dT_remember_173 (by decide) ?_
          refine J.loc (lv' := [(0, _), (1, _)]) ⟨rfl, rfl, trivial⟩ ?_
          rw [eN] at h10
          rw [eK] at h23
          first
            | (have g : hI σ 4 i = 3 := h23
               exact trk (by omega) g)
            | (rw [eK] at h52 h128
               exact no (by omega) h23 h52 h128)
  have start := loop (N + 1) 0 (by omega) (by omega) (hD σ 59) (hD σ 60) (hI σ 61) (hI σ 62) (fun m x y => by rw [pw_0]; exact hst m x y) (fun m x y w => ⟨fun q => absurd q (by omega), fun _ => (hrg m x y w).1⟩) (fun m x y w => by rw [pw_0]; exact hsd m x y w)
  rw [rmt_0] at start
  refine j_iconst (p2 := 1) dT_remember_0 rfl ?_
  refine j_istore_n (p2 := 2) (lv' := [(0, _), (1, _)]) dT_remember_1 rfl (Nat.le_of_ble_eq_true rfl) ⟨rfl, rfl, trivial⟩ ?_
  refine J.loc (lv' := [(0, _), (1, _)]) ⟨rfl, rfl, trivial⟩ ?_
  exact start
end TWC7
