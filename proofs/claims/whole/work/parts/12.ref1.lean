/-! ===== the reference's leaves ===== -/
section REF1
variable {σ : Hp} {Q : Option PV → Hp → Prop}
theorem cM_in {v a b : Int} (hv : inR v) (ha : inR a) (hb : inR b) (hQ : Q (some (vI (bI (decide (a ≤ v ∧ v ≤ b))))) σ) : Sp mM_in [vI v, vI a, vI b] σ Q := by
  refine j_iload_n (p2 := 1) dM_in_0 rfl rfl ?_
  refine j_iload_n (p2 := 2) dM_in_1 rfl rfl ?_
  refine j_icmp_lt (p2 := 5) (tg := 14) dM_in_2 rfl (by decide) (by constructor <;> omega) (by constructor <;> omega) (fun h2 => ?_) (fun h2 => ?_)
  · refine j_iconst (p2 := 15) dM_in_14 rfl ?_
    refine j_zreturn dM_in_15 rfl (by first | exact Or.inl rfl | exact Or.inr rfl | exact bI_or _ | omega) (by first | exact Q_b1 hQ (by omega) | exact Q_b0 hQ (by omega))
  · refine j_iload_n (p2 := 6) dM_in_5 rfl rfl ?_
    refine j_iload_n (p2 := 7) dM_in_6 rfl rfl ?_
    refine j_icmp_gt (p2 := 10) (tg := 14) dM_in_7 rfl (by decide) (by constructor <;> omega) (by constructor <;> omega) (fun h7 => ?_) (fun h7 => ?_)
    · refine j_iconst (p2 := 15) dM_in_14 rfl ?_
      refine j_zreturn dM_in_15 rfl (by first | exact Or.inl rfl | exact Or.inr rfl | exact bI_or _ | omega) (by first | exact Q_b1 hQ (by omega) | exact Q_b0 hQ (by omega))
    · refine j_iconst (p2 := 11) dM_in_10 rfl ?_
      refine j_goto (p2 := 15) dM_in_11 (by decide) ?_
      refine j_zreturn dM_in_15 rfl (by first | exact Or.inl rfl | exact Or.inr rfl | exact bI_or _ | omega) (by first | exact Q_b1 hQ (by omega) | exact Q_b0 hQ (by omega))
theorem cM_isModule {m : Int} (hm : inR m) (hn : 0 ≤ hI σ 69 0 ∧ hI σ 69 0 ≤ 20) (hQ : Q (some (vI (bI (decide (0 ≤ m ∧ m < hI σ 69 0))))) σ) : Sp mM_isModule [vR 69, vI m] σ Q := by
  refine j_iload_n (p2 := 1) dM_isModule_0 rfl rfl ?_
  refine j_iconst (p2 := 2) dM_isModule_1 rfl ?_
  refine j_aload_n (p2 := 3) dM_isModule_2 rfl rfl ?_
  refine j_getIk (p2 := 6) dM_isModule_3 rfl fa_M_158 ly_69 rfl (ki := 0) rfl ?_
  refine j_iconst (p2 := 7) dM_isModule_6 rfl ?_
  refine j_isub (p2 := 8) dM_isModule_7 rfl ?_
  refine j_callS (m' := mM_in) (As := [_, _, _]) (p2 := 11) dM_isModule_8 rfl ml_M_161 ok_mM_in sm_mM_in rfl rfl (Nat.le_of_ble_eq_true rfl) (Nat.le_of_ble_eq_true rfl) ⟨(Nat.le_of_ble_eq_true rfl), (Nat.le_of_ble_eq_true rfl)⟩ ?_
  refine cM_in hm (by constructor <;> omega) (by constructor <;> omega) ?_
  refine j_zreturn dM_isModule_11 rfl (by first | exact Or.inl rfl | exact Or.inr rfl | exact bI_or _ | omega) ?_
  have e : decide (0 ≤ m ∧ m ≤ hI σ 69 0 - 1) = decide (0 ≤ m ∧ m < hI σ 69 0) := by
    apply decide_eq_decide.mpr; omega
  rw [e]; exact hQ
theorem cM_isStrip {m : Int} (hm : inR m) (hn : 0 ≤ hI σ 69 37 ∧ hI σ 69 37 ≤ 6) (hQ : Q (some (vI (bI (decide (0 ≤ m ∧ m < hI σ 69 37))))) σ) : Sp mM_isStrip [vR 69, vI m] σ Q := by
  refine j_iload_n (p2 := 1) dM_isStrip_0 rfl rfl ?_
  refine j_iconst (p2 := 2) dM_isStrip_1 rfl ?_
  refine j_aload_n (p2 := 3) dM_isStrip_2 rfl rfl ?_
  refine j_getIk (p2 := 6) dM_isStrip_3 rfl fa_M_332 ly_69 rfl (ki := 37) rfl ?_
  refine j_iconst (p2 := 7) dM_isStrip_6 rfl ?_
  refine j_isub (p2 := 8) dM_isStrip_7 rfl ?_
  refine j_callS (m' := mM_in) (As := [_, _, _]) (p2 := 11) dM_isStrip_8 rfl ml_M_161 ok_mM_in sm_mM_in rfl rfl (Nat.le_of_ble_eq_true rfl) (Nat.le_of_ble_eq_true rfl) ⟨(Nat.le_of_ble_eq_true rfl), (Nat.le_of_ble_eq_true rfl)⟩ ?_
  refine cM_in hm (by constructor <;> omega) (by constructor <;> omega) ?_
  refine j_zreturn dM_isStrip_11 rfl (by first | exact Or.inl rfl | exact Or.inr rfl | exact bI_or _ | omega) ?_
  have e : decide (0 ≤ m ∧ m ≤ hI σ 69 37 - 1) = decide (0 ≤ m ∧ m < hI σ 69 37) := by
    apply decide_eq_decide.mpr; omega
  rw [e]; exact hQ
abbrev rem (k : Int) : Prop := k = 2 ∨ k = 3 ∨ k = 11 ∨ k = 13
theorem cM_remembers {k : Int} (hk : inR k) (hQ : Q (some (vI (bI (decide (rem k))))) σ) : Sp mM_remembers [vI k] σ Q := by
  refine j_iload_n (p2 := 1) dM_remembers_0 rfl rfl ?_
  refine j_iconst (p2 := 2) dM_remembers_1 rfl ?_
  refine j_icmp_eq (p2 := 5) (tg := 22) dM_remembers_2 rfl (by decide) (by constructor <;> omega) (by constructor <;> omega) (fun h2 => ?_) (fun h2 => ?_)
  · refine j_iconst (p2 := 23) dM_remembers_22 rfl ?_
    refine j_goto (p2 := 27) dM_remembers_23 (by decide) ?_
    refine j_zreturn dM_remembers_27 rfl (by first | exact Or.inl rfl | exact Or.inr rfl | exact bI_or _ | omega) (by first | exact Q_b1 hQ (by unfold rem; omega) | exact Q_b0 hQ (by unfold rem; omega))
  · refine j_iload_n (p2 := 6) dM_remembers_5 rfl rfl ?_
    refine j_iconst (p2 := 7) dM_remembers_6 rfl ?_
    refine j_icmp_eq (p2 := 10) (tg := 22) dM_remembers_7 rfl (by decide) (by constructor <;> omega) (by constructor <;> omega) (fun h7 => ?_) (fun h7 => ?_)
    · refine j_iconst (p2 := 23) dM_remembers_22 rfl ?_
      refine j_goto (p2 := 27) dM_remembers_23 (by decide) ?_
      refine j_zreturn dM_remembers_27 rfl (by first | exact Or.inl rfl | exact Or.inr rfl | exact bI_or _ | omega) (by first | exact Q_b1 hQ (by unfold rem; omega) | exact Q_b0 hQ (by unfold rem; omega))
    · refine j_iload_n (p2 := 11) dM_remembers_10 rfl rfl ?_
      refine j_bipush (v := 11) (p2 := 13) dM_remembers_11 rfl rfl ?_
      refine j_icmp_eq (p2 := 16) (tg := 22) dM_remembers_13 rfl (by decide) (by constructor <;> omega) (by constructor <;> omega) (fun h13 => ?_) (fun h13 => ?_)
      · refine j_iconst (p2 := 23) dM_remembers_22 rfl ?_
        refine j_goto (p2 := 27) dM_remembers_23 (by decide) ?_
        refine j_zreturn dM_remembers_27 rfl (by first | exact Or.inl rfl | exact Or.inr rfl | exact bI_or _ | omega) (by first | exact Q_b1 hQ (by unfold rem; omega) | exact Q_b0 hQ (by unfold rem; omega))
      · refine j_iload_n (p2 := 17) dM_remembers_16 rfl rfl ?_
        refine j_bipush (v := 13) (p2 := 19) dM_remembers_17 rfl rfl ?_
        refine j_icmp_ne (p2 := 22) (tg := 26) dM_remembers_19 rfl (by decide) (by constructor <;> omega) (by constructor <;> omega) (fun h19 => ?_) (fun h19 => ?_)
        · refine j_iconst (p2 := 27) dM_remembers_26 rfl ?_
          refine j_zreturn dM_remembers_27 rfl (by first | exact Or.inl rfl | exact Or.inr rfl | exact bI_or _ | omega) (by first | exact Q_b1 hQ (by unfold rem; omega) | exact Q_b0 hQ (by unfold rem; omega))
        · refine j_iconst (p2 := 23) dM_remembers_22 rfl ?_
          refine j_goto (p2 := 27) dM_remembers_23 (by decide) ?_
          refine j_zreturn dM_remembers_27 rfl (by first | exact Or.inl rfl | exact Or.inr rfl | exact bI_or _ | omega) (by first | exact Q_b1 hQ (by unfold rem; omega) | exact Q_b0 hQ (by unfold rem; omega))
/-- v from a to b -/
abbrev dwi (v a b : UInt64) : Prop := (FP.dcmp v a = some .gt ∨ FP.dcmp v a = some .eq) ∧ (FP.dcmp v b = some .lt ∨ FP.dcmp v b = some .eq)
theorem cM_isWithin {v a b : UInt64} (hQ : Q (some (vI (bI (decide (dwi v a b))))) σ) : Sp mM_isWithin [vD v, vD a, vD b] σ Q := by
  refine j_dload_n (p2 := 1) dM_isWithin_0 rfl rfl ?_
  refine j_dload_n (p2 := 2) dM_isWithin_1 rfl rfl ?_
  refine j_dcmp_l_lt (p1 := 3) (p2 := 6) (tg := 17) dM_isWithin_2 rfl dM_isWithin_3 rfl (by decide) (fun h2 => ?_) (fun h2 => ?_)
  · refine j_iconst (p2 := 18) dM_isWithin_17 rfl ?_
    refine j_zreturn dM_isWithin_18 rfl (by first | exact Or.inl rfl | exact Or.inr rfl | exact bI_or _ | omega) (by first | exact Q_b1 hQ ⟨‹_›, ‹_›⟩ | exact Q_b0 hQ (fun q => ‹¬ _› q.1) | exact Q_b0 hQ (fun q => ‹¬ _› q.2))
  · refine j_dload_n (p2 := 7) dM_isWithin_6 rfl rfl ?_
    refine j_dload (p2 := 9) dM_isWithin_7 rfl rfl ?_
    refine j_dcmp_g_gt (p1 := 10) (p2 := 13) (tg := 17) dM_isWithin_9 rfl dM_isWithin_10 rfl (by decide) (fun h9 => ?_) (fun h9 => ?_)
    · refine j_iconst (p2 := 18) dM_isWithin_17 rfl ?_
      refine j_zreturn dM_isWithin_18 rfl (by first | exact Or.inl rfl | exact Or.inr rfl | exact bI_or _ | omega) (by first | exact Q_b1 hQ ⟨‹_›, ‹_›⟩ | exact Q_b0 hQ (fun q => ‹¬ _› q.1) | exact Q_b0 hQ (fun q => ‹¬ _› q.2))
    · refine j_iconst (p2 := 14) dM_isWithin_13 rfl ?_
      refine j_goto (p2 := 18) dM_isWithin_14 (by decide) ?_
      refine j_zreturn dM_isWithin_18 rfl (by first | exact Or.inl rfl | exact Or.inr rfl | exact bI_or _ | omega) (by first | exact Q_b1 hQ ⟨‹_›, ‹_›⟩ | exact Q_b0 hQ (fun q => ‹¬ _› q.1) | exact Q_b0 hQ (fun q => ‹¬ _› q.2))
abbrev isNum (x : Int64) : Prop := (x &&& 9223372036854775807) ≤ 9218868437227405312
theorem cM_isNumber {x : Int64} (hQ : Q (some (vI (bI (decide (isNum x))))) σ) : Sp mM_isNumber [vL x] σ Q := by
  refine j_lload_n (p2 := 1) dM_isNumber_0 rfl rfl ?_
  refine j_ldc2 (p2 := 4) dM_isNumber_1 rfl cw_M_165 ?_
  refine j_land (p2 := 5) dM_isNumber_4 rfl ?_
  refine j_ldc2 (p2 := 8) dM_isNumber_5 rfl cw_M_167 ?_
  refine j_lcmp_gt (p1 := 9) (p2 := 12) (tg := 16) dM_isNumber_8 rfl dM_isNumber_9 rfl (by decide) (fun h8 => ?_) (fun h8 => ?_)
  · refine j_iconst (p2 := 17) dM_isNumber_16 rfl ?_
    refine j_zreturn dM_isNumber_17 rfl (by first | exact Or.inl rfl | exact Or.inr rfl | exact bI_or _ | omega) (by first | exact Q_b1 hQ ‹_› | exact Q_b0 hQ ‹_›)
  · refine j_iconst (p2 := 13) dM_isNumber_12 rfl ?_
    refine j_goto (p2 := 17) dM_isNumber_13 (by decide) ?_
    refine j_zreturn dM_isNumber_17 rfl (by first | exact Or.inl rfl | exact Or.inr rfl | exact bI_or _ | omega) (by first | exact Q_b1 hQ ‹_› | exact Q_b0 hQ ‹_›)
theorem cM_has {m i : Int} (hm : 0 ≤ m ∧ m < 20) (hi : 0 ≤ i ∧ i < 6) (hf : inR (hI σ 72 (6 * m + i))) (hQ : Q (some (vI (bI (decide (¬ hI σ 72 (6 * m + i) = -1))))) σ) : Sp mM_has [vR 69, vI m, vI i] σ Q := by
  refine j_aload_n (p2 := 1) dM_has_0 rfl rfl ?_
  refine j_getR (p2 := 4) dM_has_1 rfl fa_M_17 ly_69 rfl ?_
  refine j_bipush (v := 6) (p2 := 6) dM_has_4 rfl rfl ?_
  refine j_iload_n (p2 := 7) dM_has_6 rfl rfl ?_
  refine j_imul (p2 := 8) dM_has_7 rfl ?_
  refine j_iload_n (p2 := 9) dM_has_8 rfl rfl ?_
  refine j_iadd (p2 := 10) dM_has_9 rfl ?_
  refine j_iald (p2 := 11) dM_has_10 rfl ly_72 (by decide) (by omega) (by omega) ?_
  refine j_iconst (p2 := 12) dM_has_11 rfl ?_
  refine j_icmp_eq (p2 := 15) (tg := 19) dM_has_12 rfl (by decide) (by constructor <;> omega) (by constructor <;> omega) (fun h12 => ?_) (fun h12 => ?_)
  · refine j_iconst (p2 := 20) dM_has_19 rfl ?_
    refine j_zreturn dM_has_20 rfl (by first | exact Or.inl rfl | exact Or.inr rfl | exact bI_or _ | omega) (by first | exact Q_b1 hQ (by omega) | exact Q_b0 hQ (by omega))
  · refine j_iconst (p2 := 16) dM_has_15 rfl ?_
    refine j_goto (p2 := 20) dM_has_16 (by decide) ?_
    refine j_zreturn dM_has_20 rfl (by first | exact Or.inl rfl | exact Or.inr rfl | exact bI_or _ | omega) (by first | exact Q_b1 hQ (by omega) | exact Q_b0 hQ (by omega))
end REF1
