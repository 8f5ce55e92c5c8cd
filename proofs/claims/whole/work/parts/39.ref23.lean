/-! ===== crossings and peaks of the reference ===== -/
/-- the k-th place that P takes, from i on, f places; n are behind -/
def plc (P : Int → Bool) (k : Int) : Nat → Int → Int → Int
  | 0, _, _ => -1
  | f + 1, i, n => if P i = true then (if n = k then i else plc P k f (i + 1) (n + 1)) else plc P k f (i + 1) n
def crP (f : Int → UInt64) (s i : Int) : Bool := decide (FP.dcmp (f (120 * s + i)) FP.dconst0 = some .gt) != decide (FP.dcmp (f (120 * s + i - 1)) FP.dconst0 = some .gt)
def pkP (f : Int → UInt64) (s i : Int) : Bool := decide (FP.dcmp (f (120 * s + i)) (f (120 * s + i - 1)) = some .gt) && decide (FP.dcmp (f (120 * s + i)) (f (120 * s + i + 1)) = some .gt ∨ FP.dcmp (f (120 * s + i)) (f (120 * s + i + 1)) = some .eq)
section REF23
variable {σ : Hp} {Q : Option PV → Hp → Prop} {N : Nat}
theorem cM_crossing {s k : Int} (hs : Sc σ) (hm : inR s) (hk : inR k) (hl : isS σ s → 0 ≤ hI σ 101 s ∧ hI σ 101 s ≤ 120) (h1 : ¬ isS σ s → Q (some (vI (-101))) σ) (h2 : isS σ s → Q (some (vI (plc (crP (hD σ 102) s) k (hI σ 101 s - 1).toNat 1 0))) σ) : Sp mM_crossing [vR 69, vI s, vI k] σ Q := by
  obtain ⟨s1, s2, s3, s4⟩ := hs
  have loop : isS σ s → ∀ (f i n : Nat), 1 ≤ i → (i : Int) + f = (if 1 ≤ hI σ 101 s then hI σ 101 s else 1) → n ≤ i → Q (some (vI (plc (crP (hD σ 102) s) k f i n))) σ → J mM_crossing 16 [(0, vR 69), (1, vI s), (2, vI k), (3, vI n), (4, vI i)] [] σ Q := by
    intro hS f
    have hb := hl hS
    have hc : (if 1 ≤ hI σ 101 s then hI σ 101 s else 1) ≤ 120 ∧ hI σ 101 s ≤ (if 1 ≤ hI σ 101 s then hI σ 101 s else 1) := by
      by_cases c : 1 ≤ hI σ 101 s
      · rw [if_pos c]; omega
      · rw [if_neg c]; omega
    have hc2 : hI σ 101 s = (if 1 ≤ hI σ 101 s then hI σ 101 s else 1) ∨ (if 1 ≤ hI σ 101 s then hI σ 101 s else 1) = 1 := by
      by_cases c : 1 ≤ hI σ 101 s
      · rw [if_pos c]; exact Or.inl rfl
      · rw [if_neg c]; exact Or.inr rfl
    generalize (if 1 ≤ hI σ 101 s then hI σ 101 s else 1) = M at *
    induction f with
    | zero =>
      intro i n h3 h4 h5 hq
      refine j_iload (p2 := 18) dM_crossing_16 rfl rfl ?_
      refine j_aload_n (p2 := 19) dM_crossing_18 rfl rfl ?_
      refine j_getR (p2 := 22) dM_crossing_19 rfl fa_M_110 ly_69 rfl ?_
      refine j_iload_n (p2 := 23) dM_crossing_22 rfl rfl ?_
      refine j_iald (p2 := 24) dM_crossing_23 rfl ly_101 (by decide) (by omega) (by omega) ?_
      refine j_icmp_ge (p2 := 27) (tg := 93) dM_crossing_24 rfl (by decide) (by constructor <;> omega) (by constructor <;> omega) (fun h24 => ?_) (fun h24 => ?_)
      · refine j_iconst (p2 := 94) dM_crossing_93 rfl ?_
        refine j_ireturn dM_crossing_94 rfl (by exact hq)
      · refine J.loc (lv' := [(0, _), (1, _), (2, _), (3, _), (4, _)]) ⟨rfl, rfl, rfl, rfl, rfl, trivial⟩ ?_
        exfalso
        omega
    | succ f ih =>
      intro i n h3 h4 h5 hq
      have no : crP (hD σ 102) s i = false → J mM_crossing 16 [(0, vR 69), (1, vI s), (2, vI k), (3, vI n), (4, vI (i + 1))] [] σ Q := fun g => by
        have e : plc (crP (hD σ 102) s) k (f + 1) i n = plc (crP (hD σ 102) s) k f (i + 1) n := if_neg (by rw [g]; decide)
        rw [e] at hq
        exact ih (i + 1) n (by omega) (by omega) (by omega) hq
      have yes : crP (hD σ 102) s i = true → J mM_crossing 76 [(0, vR 69), (1, vI s), (2, vI k), (3, vI n), (4, vI i)] [] σ Q := fun g => by
        have e : plc (crP (hD σ 102) s) k (f + 1) i n = (if (n : Int) = k then (i : Int) else plc (crP (hD σ 102) s) k f (i + 1) (n + 1)) := if_pos g
        rw [e] at hq
        refine j_iload_n (p2 := 77) dM_crossing_76 rfl rfl ?_
        refine j_iload_n (p2 := 78) dM_crossing_77 rfl rfl ?_
        refine j_icmp_ne (p2 := 81) (tg := 84) dM_crossing_78 rfl (by decide) (by constructor <;> omega) (by constructor <;> omega) (fun h78 => ?_) (fun h78 => ?_)
        · refine j_iinc (p2 := 87) (lv' := [(0, _), (1, _), (2, _), (3, _), (4, _)]) dM_crossing_84 rfl (Nat.le_of_ble_eq_true rfl) rfl ⟨rfl, rfl, rfl, rfl, rfl, trivial⟩ ?_
          refine j_iinc (p2 := 90) (lv' := [(0, _), (1, _), (2, _), (3, _), (4, _)]) dM_crossing_87 rfl (Nat.le_of_ble_eq_true rfl) rfl ⟨rfl, rfl, rfl, rfl, rfl, trivial⟩ ?_
          refine j_goto (p2 := 16) dM_crossing_90 (by decide) ?_
          refine J.loc (lv' := [(0, _), (1, _), (2, _), (3, _), (4, _)]) ⟨rfl, rfl, rfl, rfl, rfl, trivial⟩ ?_
          rw [if_neg h78] at hq
          exact ih (i + 1) (n + 1) (by omega) (by omega) (by omega) hq
        · refine j_iload (p2 := 83) dM_crossing_81 rfl rfl ?_
          refine j_ireturn dM_crossing_83 rfl (by rw [if_pos h78] at hq; exact hq)
      refine j_iload (p2 := 18) dM_crossing_16 rfl rfl ?_
      refine j_aload_n (p2 := 19) dM_crossing_18 rfl rfl ?_
      refine j_getR (p2 := 22) dM_crossing_19 rfl fa_M_110 ly_69 rfl ?_
      refine j_iload_n (p2 := 23) dM_crossing_22 rfl rfl ?_
      refine j_iald (p2 := 24) dM_crossing_23 rfl ly_101 (by decide) (by omega) (by omega) ?_
      refine j_icmp_ge (p2 := 27) (tg := 93) dM_crossing_24 rfl (by decide) (by constructor <;> omega) (by constructor <;> omega) (fun h24 => ?_) (fun h24 => ?_)
      · refine j_iconst (p2 := 94) dM_crossing_93 rfl ?_
        refine j_ireturn dM_crossing_94 rfl (by exfalso; omega)
      · refine j_aload_n (p2 := 28) dM_crossing_27 rfl rfl ?_
        refine j_getR (p2 := 31) dM_crossing_28 rfl fa_M_113 ly_69 rfl ?_
        refine j_bipush (v := 120) (p2 := 33) dM_crossing_31 rfl rfl ?_
        refine j_iload_n (p2 := 34) dM_crossing_33 rfl rfl ?_
        refine j_imul (p2 := 35) dM_crossing_34 rfl ?_
        refine j_iload (p2 := 37) dM_crossing_35 rfl rfl ?_
        refine j_iadd (p2 := 38) dM_crossing_37 rfl ?_
        refine j_dald (p2 := 39) dM_crossing_38 rfl ly_102 (by decide) (by omega) (by omega) ?_
        refine j_dconst0 (p2 := 40) dM_crossing_39 rfl ?_
        refine j_dcmp_l_le (p1 := 41) (p2 := 44) (tg := 48) dM_crossing_40 rfl dM_crossing_41 rfl (by decide) (fun h40 => ?_) (fun h40 => ?_)
        · refine j_iconst (p2 := 49) dM_crossing_48 rfl ?_
          refine j_aload_n (p2 := 50) dM_crossing_49 rfl rfl ?_
          refine j_getR (p2 := 53) dM_crossing_50 rfl fa_M_113 ly_69 rfl ?_
          refine j_bipush (v := 120) (p2 := 55) dM_crossing_53 rfl rfl ?_
          refine j_iload_n (p2 := 56) dM_crossing_55 rfl rfl ?_
          refine j_imul (p2 := 57) dM_crossing_56 rfl ?_
          refine j_iload (p2 := 59) dM_crossing_57 rfl rfl ?_
          refine j_iadd (p2 := 60) dM_crossing_59 rfl ?_
          refine j_iconst (p2 := 61) dM_crossing_60 rfl ?_
          refine j_isub (p2 := 62) dM_crossing_61 rfl ?_
          refine j_dald (p2 := 63) dM_crossing_62 rfl ly_102 (by decide) (by omega) (by omega) ?_
          refine j_dconst0 (p2 := 64) dM_crossing_63 rfl ?_
          refine j_dcmp_l_le (p1 := 65) (p2 := 68) (tg := 72) dM_crossing_64 rfl dM_crossing_65 rfl (by decide) (fun h64 => ?_) (fun h64 => ?_)
          · refine j_iconst (p2 := 73) dM_crossing_72 rfl ?_
            refine j_icmp_eq (p2 := 76) (tg := 87) dM_crossing_73 rfl (by decide) (by constructor <;> omega) (by constructor <;> omega) (fun h73 => ?_) (fun h73 => ?_)
            · refine j_iinc (p2 := 90) (lv' := [(0, _), (1, _), (2, _), (3, _), (4, _)]) dM_crossing_87 rfl (Nat.le_of_ble_eq_true rfl) rfl ⟨rfl, rfl, rfl, rfl, rfl, trivial⟩ ?_
              refine j_goto (p2 := 16) dM_crossing_90 (by decide) ?_
              refine J.loc (lv' := [(0, _), (1, _), (2, _), (3, _), (4, _)]) ⟨rfl, rfl, rfl, rfl, rfl, trivial⟩ ?_
              first
                | (exfalso; omega)
                | exact no (by unfold crP; rw [decide_eq_true h40, decide_eq_true h64]; rfl)
                | exact no (by unfold crP; rw [decide_eq_false h40, decide_eq_false h64]; rfl)
            · refine J.loc (lv' := [(0, _), (1, _), (2, _), (3, _), (4, _)]) ⟨rfl, rfl, rfl, rfl, rfl, trivial⟩ ?_
              first
                | (exfalso; omega)
                | exact yes (by unfold crP; rw [decide_eq_true h40, decide_eq_false h64]; rfl)
                | exact yes (by unfold crP; rw [decide_eq_false h40, decide_eq_true h64]; rfl)
          · refine j_iconst (p2 := 69) dM_crossing_68 rfl ?_
            refine j_goto (p2 := 73) dM_crossing_69 (by decide) ?_
            refine j_icmp_eq (p2 := 76) (tg := 87) dM_crossing_73 rfl (by decide) (by constructor <;> omega) (by constructor <;> omega) (fun h73 => ?_) (fun h73 => ?_)
            · refine j_iinc (p2 := 90) (lv' := [(0, _), (1, _), (2, _), (3, _), (4, _)]) dM_crossing_87 rfl (Nat.le_of_ble_eq_true rfl) rfl ⟨rfl, rfl, rfl, rfl, rfl, trivial⟩ ?_
              refine j_goto (p2 := 16) dM_crossing_90 (by decide) ?_
              refine J.loc (lv' := [(0, _), (1, _), (2, _), (3, _), (4, _)]) ⟨rfl, rfl, rfl, rfl, rfl, trivial⟩ ?_
              first
                | (exfalso; omega)
                | exact no (by unfold crP; rw [decide_eq_true h40, decide_eq_true h64]; rfl)
                | exact no (by unfold crP; rw [decide_eq_false h40, decide_eq_false h64]; rfl)
            · refine J.loc (lv' := [(0, _), (1, _), (2, _), (3, _), (4, _)]) ⟨rfl, rfl, rfl, rfl, rfl, trivial⟩ ?_
              first
                | (exfalso; omega)
                | exact yes (by unfold crP; rw [decide_eq_true h40, decide_eq_false h64]; rfl)
                | exact yes (by unfold crP; rw [decide_eq_false h40, decide_eq_true h64]; rfl)
        · refine j_iconst (p2 := 45) dM_crossing_44 rfl ?_
          refine j_goto (p2 := 49) dM_crossing_45 (by decide) ?_
          refine j_aload_n (p2 := 50) dM_crossing_49 rfl rfl ?_
          refine j_getR (p2 := 53) dM_crossing_50 rfl fa_M_113 ly_69 rfl ?_
          refine j_bipush (v := 120) (p2 := 55) dM_crossing_53 rfl rfl ?_
          refine j_iload_n (p2 := 56) dM_crossing_55 rfl rfl ?_
          refine j_imul (p2 := 57) dM_crossing_56 rfl ?_
          refine j_iload (p2 := 59) dM_crossing_57 rfl rfl ?_
          refine j_iadd (p2 := 60) dM_crossing_59 rfl ?_
          refine j_iconst (p2 := 61) dM_crossing_60 rfl ?_
          refine j_isub (p2 := 62) dM_crossing_61 rfl ?_
          refine j_dald (p2 := 63) dM_crossing_62 rfl ly_102 (by decide) (by omega) (by omega) ?_
          refine j_dconst0 (p2 := 64) dM_crossing_63 rfl ?_
          refine j_dcmp_l_le (p1 := 65) (p2 := 68) (tg := 72) dM_crossing_64 rfl dM_crossing_65 rfl (by decide) (fun h64 => ?_) (fun h64 => ?_)
          · refine j_iconst (p2 := 73) dM_crossing_72 rfl ?_
            refine j_icmp_eq (p2 := 76) (tg := 87) dM_crossing_73 rfl (by decide) (by constructor <;> omega) (by constructor <;> omega) (fun h73 => ?_) (fun h73 => ?_)
            · refine j_iinc (p2 := 90) (lv' := [(0, _), (1, _), (2, _), (3, _), (4, _)]) dM_crossing_87 rfl (Nat.le_of_ble_eq_true rfl) rfl ⟨rfl, rfl, rfl, rfl, rfl, trivial⟩ ?_
              refine j_goto (p2 := 16) dM_crossing_90 (by decide) ?_
              refine J.loc (lv' := [(0, _), (1, _), (2, _), (3, _), (4, _)]) ⟨rfl, rfl, rfl, rfl, rfl, trivial⟩ ?_
              first
                | (exfalso; omega)
                | exact no (by unfold crP; rw [decide_eq_true h40, decide_eq_true h64]; rfl)
                | exact no (by unfold crP; rw [decide_eq_false h40, decide_eq_false h64]; rfl)
            · refine J.loc (lv' := [(0, _), (1, _), (2, _), (3, _), (4, _)]) ⟨rfl, rfl, rfl, rfl, rfl, trivial⟩ ?_
              first
                | (exfalso; omega)
                | exact yes (by unfold crP; rw [decide_eq_true h40, decide_eq_false h64]; rfl)
                | exact yes (by unfold crP; rw [decide_eq_false h40, decide_eq_true h64]; rfl)
          · refine j_iconst (p2 := 69) dM_crossing_68 rfl ?_
            refine j_goto (p2 := 73) dM_crossing_69 (by decide) ?_
            refine j_icmp_eq (p2 := 76) (tg := 87) dM_crossing_73 rfl (by decide) (by constructor <;> omega) (by constructor <;> omega) (fun h73 => ?_) (fun h73 => ?_)
            · refine j_iinc (p2 := 90) (lv' := [(0, _), (1, _), (2, _), (3, _), (4, _)]) dM_crossing_87 rfl (Nat.le_of_ble_eq_true rfl) rfl ⟨rfl, rfl, rfl, rfl, rfl, trivial⟩ ?_
              refine j_goto (p2 := 16) dM_crossing_90 (by decide) ?_
              refine J.loc (lv' := [(0, _), (1, _), (2, _), (3, _), (4, _)]) ⟨rfl, rfl, rfl, rfl, rfl, trivial⟩ ?_
              first
                | (exfalso; omega)
                | exact no (by unfold crP; rw [decide_eq_true h40, decide_eq_true h64]; rfl)
                | exact no (by unfold crP; rw [decide_eq_false h40, decide_eq_false h64]; rfl)
            · refine J.loc (lv' := [(0, _), (1, _), (2, _), (3, _), (4, _)]) ⟨rfl, rfl, rfl, rfl, rfl, trivial⟩ ?_
              first
                | (exfalso; omega)
                | exact yes (by unfold crP; rw [decide_eq_true h40, decide_eq_false h64]; rfl)
                | exact yes (by unfold crP; rw [decide_eq_false h40, decide_eq_true h64]; rfl)
  refine j_aload_n (p2 := 1) dM_crossing_0 rfl rfl ?_
  refine j_iload_n (p2 := 2) dM_crossing_1 rfl rfl ?_
  refine j_callV (m' := mM_isStrip) (As := [_]) (p2 := 5) dM_crossing_2 rfl ml_M_359 ok_mM_isStrip im_mM_isStrip se_mM_isStrip rfl rfl (Nat.le_of_ble_eq_true rfl) ly_69 rfl (Nat.le_of_ble_eq_true rfl) ⟨(Nat.le_of_ble_eq_true rfl), (Nat.le_of_ble_eq_true rfl)⟩ ?_
  refine cM_isStrip hm s3 ?_
  refine j_ifb_ne (p2 := 8) (tg := 11) dM_crossing_5 rfl (by decide) (fun h5 => ?_) (fun h5 => ?_)
  · refine j_iconst (p2 := 12) dM_crossing_11 rfl ?_
    refine j_istore_n (p2 := 13) (lv' := [(0, _), (1, _), (2, _), (3, _)]) dM_crossing_12 rfl (Nat.le_of_ble_eq_true rfl) ⟨rfl, rfl, rfl, rfl, trivial⟩ ?_
    refine j_iconst (p2 := 14) dM_crossing_13 rfl ?_
    refine j_istore (p2 := 16) (lv' := [(0, _), (1, _), (2, _), (3, _), (4, _)]) dM_crossing_14 rfl (Nat.le_of_ble_eq_true rfl) ⟨rfl, rfl, rfl, rfl, rfl, trivial⟩ ?_
    refine J.loc (lv' := [(0, _), (1, _), (2, _), (3, _), (4, _)]) ⟨rfl, rfl, rfl, rfl, rfl, trivial⟩ ?_
    have a := dec_t h5
    have b := hl a
    refine loop a (hI σ 101 s - 1).toNat 1 0 (by omega) ?_ (by omega) (h2 a)
    by_cases c : 1 ≤ hI σ 101 s
    · rw [if_pos c]; omega
    · rw [if_neg c]; omega
  · refine j_bipush (v := (-101)) (p2 := 10) dM_crossing_8 rfl rfl ?_
    refine j_ireturn dM_crossing_10 rfl (by exact h1 (of_decide_eq_false h5))
theorem cM_peak {s k : Int} (hs : Sc σ) (hm : inR s) (hk : inR k) (hl : isS σ s → 0 ≤ hI σ 101 s ∧ hI σ 101 s ≤ 120) (h1 : ¬ isS σ s → Q (some (vI (-101))) σ) (h2 : isS σ s → Q (some (vI (plc (pkP (hD σ 102) s) k (hI σ 101 s - 2).toNat 1 0))) σ) : Sp mM_peak [vR 69, vI s, vI k] σ Q := by
  obtain ⟨s1, s2, s3, s4⟩ := hs
  have loop : isS σ s → ∀ (f i n : Nat), 1 ≤ i → (i : Int) + 1 + f = (if 2 ≤ hI σ 101 s then hI σ 101 s else 2) → n ≤ i → Q (some (vI (plc (pkP (hD σ 102) s) k f i n))) σ → J mM_peak 16 [(0, vR 69), (1, vI s), (2, vI k), (3, vI n), (4, vI i)] [] σ Q := by
    intro hS f
    have hb := hl hS
    have hc : (if 2 ≤ hI σ 101 s then hI σ 101 s else 2) ≤ 120 ∧ hI σ 101 s ≤ (if 2 ≤ hI σ 101 s then hI σ 101 s else 2) := by
      by_cases c : 2 ≤ hI σ 101 s
      · rw [if_pos c]; omega
      · rw [if_neg c]; omega
    have hc2 : hI σ 101 s = (if 2 ≤ hI σ 101 s then hI σ 101 s else 2) ∨ (if 2 ≤ hI σ 101 s then hI σ 101 s else 2) = 2 := by
      by_cases c : 2 ≤ hI σ 101 s
      · rw [if_pos c]; exact Or.inl rfl
      · rw [if_neg c]; exact Or.inr rfl
    generalize (if 2 ≤ hI σ 101 s then hI σ 101 s else 2) = M at *
    induction f with
    | zero =>
      intro i n h3 h4 h5 hq
      refine j_iload (p2 := 18) dM_peak_16 rfl rfl ?_
      refine j_iconst (p2 := 19) dM_peak_18 rfl ?_
      refine j_iadd (p2 := 20) dM_peak_19 rfl ?_
      refine j_aload_n (p2 := 21) dM_peak_20 rfl rfl ?_
      refine j_getR (p2 := 24) dM_peak_21 rfl fa_M_110 ly_69 rfl ?_
      refine j_iload_n (p2 := 25) dM_peak_24 rfl rfl ?_
      refine j_iald (p2 := 26) dM_peak_25 rfl ly_101 (by decide) (by omega) (by omega) ?_
      refine j_icmp_ge (p2 := 29) (tg := 100) dM_peak_26 rfl (by decide) (by constructor <;> omega) (by constructor <;> omega) (fun h26 => ?_) (fun h26 => ?_)
      · refine j_iconst (p2 := 101) dM_peak_100 rfl ?_
        refine j_ireturn dM_peak_101 rfl (by exact hq)
      · refine J.loc (lv' := [(0, _), (1, _), (2, _), (3, _), (4, _)]) ⟨rfl, rfl, rfl, rfl, rfl, trivial⟩ ?_
        exfalso
        omega
    | succ f ih =>
      intro i n h3 h4 h5 hq
      have no : pkP (hD σ 102) s i = false → J mM_peak 16 [(0, vR 69), (1, vI s), (2, vI k), (3, vI n), (4, vI (i + 1))] [] σ Q := fun g => by
        have e : plc (pkP (hD σ 102) s) k (f + 1) i n = plc (pkP (hD σ 102) s) k f (i + 1) n := if_neg (by rw [g]; decide)
        rw [e] at hq
        exact ih (i + 1) n (by omega) (by omega) (by omega) hq
      have yes : pkP (hD σ 102) s i = true → J mM_peak 83 [(0, vR 69), (1, vI s), (2, vI k), (3, vI n), (4, vI i)] [] σ Q := fun g => by
        have e : plc (pkP (hD σ 102) s) k (f + 1) i n = (if (n : Int) = k then (i : Int) else plc (pkP (hD σ 102) s) k f (i + 1) (n + 1)) := if_pos g
        rw [e] at hq
        refine j_iload_n (p2 := 84) dM_peak_83 rfl rfl ?_
        refine j_iload_n (p2 := 85) dM_peak_84 rfl rfl ?_
        refine j_icmp_ne (p2 := 88) (tg := 91) dM_peak_85 rfl (by decide) (by constructor <;> omega) (by constructor <;> omega) (fun h85 => ?_) (fun h85 => ?_)
        · refine j_iinc (p2 := 94) (lv' := [(0, _), (1, _), (2, _), (3, _), (4, _)]) dM_peak_91 rfl (Nat.le_of_ble_eq_true rfl) rfl ⟨rfl, rfl, rfl, rfl, rfl, trivial⟩ ?_
          refine j_iinc (p2 := 97) (lv' := [(0, _), (1, _), (2, _), (3, _), (4, _)]) dM_peak_94 rfl (Nat.le_of_ble_eq_true rfl) rfl ⟨rfl, rfl, rfl, rfl, rfl, trivial⟩ ?_
          refine j_goto (p2 := 16) dM_peak_97 (by decide) ?_
          refine J.loc (lv' := [(0, _), (1, _), (2, _), (3, _), (4, _)]) ⟨rfl, rfl, rfl, rfl, rfl, trivial⟩ ?_
          rw [if_neg h85] at hq
          exact ih (i + 1) (n + 1) (by omega) (by omega) (by omega) hq
        · refine j_iload (p2 := 90) dM_peak_88 rfl rfl ?_
          refine j_ireturn dM_peak_90 rfl (by rw [if_pos h85] at hq; exact hq)
      refine j_iload (p2 := 18) dM_peak_16 rfl rfl ?_
      refine j_iconst (p2 := 19) dM_peak_18 rfl ?_
      refine j_iadd (p2 := 20) dM_peak_19 rfl ?_
      refine j_aload_n (p2 := 21) dM_peak_20 rfl rfl ?_
      refine j_getR (p2 := 24) dM_peak_21 rfl fa_M_110 ly_69 rfl ?_
      refine j_iload_n (p2 := 25) dM_peak_24 rfl rfl ?_
      refine j_iald (p2 := 26) dM_peak_25 rfl ly_101 (by decide) (by omega) (by omega) ?_
      refine j_icmp_ge (p2 := 29) (tg := 100) dM_peak_26 rfl (by decide) (by constructor <;> omega) (by constructor <;> omega) (fun h26 => ?_) (fun h26 => ?_)
      · refine j_iconst (p2 := 101) dM_peak_100 rfl ?_
        refine j_ireturn dM_peak_101 rfl (by exfalso; omega)
      · refine j_aload_n (p2 := 30) dM_peak_29 rfl rfl ?_
        refine j_getR (p2 := 33) dM_peak_30 rfl fa_M_113 ly_69 rfl ?_
        refine j_bipush (v := 120) (p2 := 35) dM_peak_33 rfl rfl ?_
        refine j_iload_n (p2 := 36) dM_peak_35 rfl rfl ?_
        refine j_imul (p2 := 37) dM_peak_36 rfl ?_
        refine j_iload (p2 := 39) dM_peak_37 rfl rfl ?_
        refine j_iadd (p2 := 40) dM_peak_39 rfl ?_
        refine j_dald (p2 := 41) dM_peak_40 rfl ly_102 (by decide) (by omega) (by omega) ?_
        refine j_dstore (p2 := 43) (lv' := [(0, _), (1, _), (2, _), (3, _), (4, _), (5, _)]) dM_peak_41 rfl (Nat.le_of_ble_eq_true rfl) ⟨rfl, rfl, rfl, rfl, rfl, rfl, trivial⟩ ?_
        refine j_dload (p2 := 45) dM_peak_43 rfl rfl ?_
        refine j_aload_n (p2 := 46) dM_peak_45 rfl rfl ?_
        refine j_getR (p2 := 49) dM_peak_46 rfl fa_M_113 ly_69 rfl ?_
        refine j_bipush (v := 120) (p2 := 51) dM_peak_49 rfl rfl ?_
        refine j_iload_n (p2 := 52) dM_peak_51 rfl rfl ?_
        refine j_imul (p2 := 53) dM_peak_52 rfl ?_
        refine j_iload (p2 := 55) dM_peak_53 rfl rfl ?_
        refine j_iadd (p2 := 56) dM_peak_55 rfl ?_
        refine j_iconst (p2 := 57) dM_peak_56 rfl ?_
        refine j_isub (p2 := 58) dM_peak_57 rfl ?_
        refine j_dald (p2 := 59) dM_peak_58 rfl ly_102 (by decide) (by omega) (by omega) ?_
        refine j_dcmp_l_le (p1 := 60) (p2 := 63) (tg := 94) dM_peak_59 rfl dM_peak_60 rfl (by decide) (fun h59 => ?_) (fun h59 => ?_)
        · refine j_iinc (p2 := 97) (lv' := [(0, _), (1, _), (2, _), (3, _), (4, _)]) dM_peak_94 rfl (Nat.le_of_ble_eq_true rfl) rfl ⟨rfl, rfl, rfl, rfl, rfl, trivial⟩ ?_
          refine j_goto (p2 := 16) dM_peak_97 (by decide) ?_
          refine J.loc (lv' := [(0, _), (1, _), (2, _), (3, _), (4, _)]) ⟨rfl, rfl, rfl, rfl, rfl, trivial⟩ ?_
          first
            | exact no (by unfold pkP; rw [decide_eq_true h59, decide_eq_false h79]; rfl)
            | exact no (by unfold pkP; rw [decide_eq_false h59]; rfl)
        · refine j_dload (p2 := 65) dM_peak_63 rfl rfl ?_
          refine j_aload_n (p2 := 66) dM_peak_65 rfl rfl ?_
          refine j_getR (p2 := 69) dM_peak_66 rfl fa_M_113 ly_69 rfl ?_
          refine j_bipush (v := 120) (p2 := 71) dM_peak_69 rfl rfl ?_
          refine j_iload_n (p2 := 72) dM_peak_71 rfl rfl ?_
          refine j_imul (p2 := 73) dM_peak_72 rfl ?_
          refine j_iload (p2 := 75) dM_peak_73 rfl rfl ?_
          refine j_iadd (p2 := 76) dM_peak_75 rfl ?_
          refine j_iconst (p2 := 77) dM_peak_76 rfl ?_
          refine j_iadd (p2 := 78) dM_peak_77 rfl ?_
          refine j_dald (p2 := 79) dM_peak_78 rfl ly_102 (by decide) (by omega) (by omega) ?_
          refine j_dcmp_l_lt (p1 := 80) (p2 := 83) (tg := 94) dM_peak_79 rfl dM_peak_80 rfl (by decide) (fun h79 => ?_) (fun h79 => ?_)
          · refine j_iinc (p2 := 97) (lv' := [(0, _), (1, _), (2, _), (3, _), (4, _)]) dM_peak_94 rfl (Nat.le_of_ble_eq_true rfl) rfl ⟨rfl, rfl, rfl, rfl, rfl, trivial⟩ ?_
            refine j_goto (p2 := 16) dM_peak_97 (by decide) ?_
            refine J.loc (lv' := [(0, _), (1, _), (2, _), (3, _), (4, _)]) ⟨rfl, rfl, rfl, rfl, rfl, trivial⟩ ?_
            first
              | exact no (by unfold pkP; rw [decide_eq_true h59, decide_eq_false h79]; rfl)
              | exact no (by unfold pkP; rw [decide_eq_false h59]; rfl)
          · refine J.loc (lv' := [(0, _), (1, _), (2, _), (3, _), (4, _)]) ⟨rfl, rfl, rfl, rfl, rfl, trivial⟩ ?_
            exact yes (by unfold pkP; rw [decide_eq_true h59, decide_eq_true h79]; rfl)
  refine j_aload_n (p2 := 1) dM_peak_0 rfl rfl ?_
  refine j_iload_n (p2 := 2) dM_peak_1 rfl rfl ?_
  refine j_callV (m' := mM_isStrip) (As := [_]) (p2 := 5) dM_peak_2 rfl ml_M_359 ok_mM_isStrip im_mM_isStrip se_mM_isStrip rfl rfl (Nat.le_of_ble_eq_true rfl) ly_69 rfl (Nat.le_of_ble_eq_true rfl) ⟨(Nat.le_of_ble_eq_true rfl), (Nat.le_of_ble_eq_true rfl)⟩ ?_
  refine cM_isStrip hm s3 ?_
  refine j_ifb_ne (p2 := 8) (tg := 11) dM_peak_5 rfl (by decide) (fun h5 => ?_) (fun h5 => ?_)
  · refine j_iconst (p2 := 12) dM_peak_11 rfl ?_
    refine j_istore_n (p2 := 13) (lv' := [(0, _), (1, _), (2, _), (3, _)]) dM_peak_12 rfl (Nat.le_of_ble_eq_true rfl) ⟨rfl, rfl, rfl, rfl, trivial⟩ ?_
    refine j_iconst (p2 := 14) dM_peak_13 rfl ?_
    refine j_istore (p2 := 16) (lv' := [(0, _), (1, _), (2, _), (3, _), (4, _)]) dM_peak_14 rfl (Nat.le_of_ble_eq_true rfl) ⟨rfl, rfl, rfl, rfl, rfl, trivial⟩ ?_
    refine J.loc (lv' := [(0, _), (1, _), (2, _), (3, _), (4, _)]) ⟨rfl, rfl, rfl, rfl, rfl, trivial⟩ ?_
    have a := dec_t h5
    have b := hl a
    refine loop a (hI σ 101 s - 2).toNat 1 0 (by omega) ?_ (by omega) (h2 a)
    by_cases c : 2 ≤ hI σ 101 s
    · rw [if_pos c]; omega
    · rw [if_neg c]; omega
  · refine j_bipush (v := (-101)) (p2 := 10) dM_peak_8 rfl rfl ?_
    refine j_ireturn dM_peak_10 rfl (by exact h1 (of_decide_eq_false h5))
end REF23
