/-! ===== the reference's face: what is asked, and small changes ===== -/
abbrev Sc (σ : Hp) : Prop := (0 ≤ hI σ 69 0 ∧ hI σ 69 0 ≤ 20) ∧ (0 ≤ hI σ 69 11 ∧ hI σ 69 11 ≤ 2) ∧ (0 ≤ hI σ 69 37 ∧ hI σ 69 37 ≤ 6) ∧ (0 ≤ hI σ 69 41 ∧ hI σ 69 41 ≤ 6)
abbrev isM (σ : Hp) (m : Int) : Prop := 0 ≤ m ∧ m < hI σ 69 0
abbrev isS (σ : Hp) (s : Int) : Prop := 0 ≤ s ∧ s < hI σ 69 37
section REF21
variable {σ : Hp} {Q : Option PV → Hp → Prop} {N : Nat}
theorem cM_now (hQ : Q (some (vI (hI σ 69 11))) σ) : Sp mM_now [vR 69] σ Q := by
  refine j_aload_n (p2 := 1) dM_now_0 rfl rfl ?_
  refine j_getIk (p2 := 4) dM_now_1 rfl fa_M_195 ly_69 rfl (ki := 11) rfl ?_
  refine j_ireturn dM_now_4 rfl hQ
theorem cM_time (hQ : Q (some (vI (hI σ 69 12))) σ) : Sp mM_time [vR 69] σ Q := by
  refine j_aload_n (p2 := 1) dM_time_0 rfl rfl ?_
  refine j_getIk (p2 := 4) dM_time_1 rfl fa_M_322 ly_69 rfl (ki := 12) rfl ?_
  refine j_ireturn dM_time_4 rfl hQ
theorem cM_broken (hQ : Q (some (vI (hI σ 69 16))) σ) : Sp mM_broken [vR 69] σ Q := by
  refine j_aload_n (p2 := 1) dM_broken_0 rfl rfl ?_
  refine j_getIk (p2 := 4) dM_broken_1 rfl fa_M_220 ly_69 rfl (ki := 16) rfl ?_
  refine j_ireturn dM_broken_4 rfl hQ
theorem cM_rule {w k : Int} (hs : Sc σ) (hw : inR w) (hk : inR k) (h1 : ¬ ((0 ≤ w ∧ w ≤ 2) ∧ 1 ≤ k ∧ k ≤ 20) → Q (some (vI (-102))) σ) (h2 : ((0 ≤ w ∧ w ≤ 2) ∧ 1 ≤ k ∧ k ≤ 20) → ¬ hI σ 69 11 = 0 → Q (some (vI (-103))) σ)
    (h3 : ((0 ≤ w ∧ w ≤ 2) ∧ 1 ≤ k ∧ k ≤ 20) → hI σ 69 11 = 0 → Q (some (vI 1)) (wI (wI σ 69 (fup (hI σ 69) 13 w)) 69 (fup (fup (hI σ 69) 13 w) 14 k))) : Sp mM_rule [vR 69, vI w, vI k] σ Q := by
  obtain ⟨s1, s2, s3, s4⟩ := hs
  refine j_iload_n (p2 := 1) dM_rule_0 rfl rfl ?_
  refine j_iconst (p2 := 2) dM_rule_1 rfl ?_
  refine j_iconst (p2 := 3) dM_rule_2 rfl ?_
  refine j_callS (m' := mM_in) (As := [_, _, _]) (p2 := 6) dM_rule_3 rfl ml_M_161 ok_mM_in sm_mM_in rfl rfl (Nat.le_of_ble_eq_true rfl) (Nat.le_of_ble_eq_true rfl) ⟨(Nat.le_of_ble_eq_true rfl), (Nat.le_of_ble_eq_true rfl)⟩ ?_
  refine cM_in hw (by constructor <;> omega) (by constructor <;> omega) ?_
  refine j_ifb_eq (p2 := 9) (tg := 19) dM_rule_6 rfl (by decide) (fun h6 => ?_) (fun h6 => ?_)
  · refine j_bipush (v := (-102)) (p2 := 21) dM_rule_19 rfl rfl ?_
    refine j_ireturn dM_rule_21 rfl (by first | exact h1 (fun q => of_decide_eq_false h6 q.1) | exact h1 (fun q => of_decide_eq_false h16 q.2))
  · refine j_iload_n (p2 := 10) dM_rule_9 rfl rfl ?_
    refine j_iconst (p2 := 11) dM_rule_10 rfl ?_
    refine j_bipush (v := 20) (p2 := 13) dM_rule_11 rfl rfl ?_
    refine j_callS (m' := mM_in) (As := [_, _, _]) (p2 := 16) dM_rule_13 rfl ml_M_161 ok_mM_in sm_mM_in rfl rfl (Nat.le_of_ble_eq_true rfl) (Nat.le_of_ble_eq_true rfl) ⟨(Nat.le_of_ble_eq_true rfl), (Nat.le_of_ble_eq_true rfl)⟩ ?_
    refine cM_in hk (by constructor <;> omega) (by constructor <;> omega) ?_
    refine j_ifb_ne (p2 := 19) (tg := 22) dM_rule_16 rfl (by decide) (fun h16 => ?_) (fun h16 => ?_)
    · refine j_aload_n (p2 := 23) dM_rule_22 rfl rfl ?_
      refine j_getIk (p2 := 26) dM_rule_23 rfl fa_M_195 ly_69 rfl (ki := 11) rfl ?_
      refine j_if_eq (p2 := 29) (tg := 32) dM_rule_26 rfl (by decide) (by constructor <;> omega) (fun h26 => ?_) (fun h26 => ?_)
      · refine j_aload_n (p2 := 33) dM_rule_32 rfl rfl ?_
        refine j_iload_n (p2 := 34) dM_rule_33 rfl rfl ?_
        refine j_putIk (p2 := 37) dM_rule_34 rfl fw_M_210 ly_69 rfl (ki := 13) rfl ?_
        refine j_aload_n (p2 := 38) dM_rule_37 rfl rfl ?_
        refine j_iload_n (p2 := 39) dM_rule_38 rfl rfl ?_
        refine j_putIk (p2 := 42) dM_rule_39 rfl fw_M_42 ly_69 rfl (ki := 14) rfl ?_
        refine j_iconst (p2 := 43) dM_rule_42 rfl ?_
        refine j_ireturn dM_rule_43 rfl (by exact h3 ⟨dec_t h6, dec_t h16⟩ h26)
      · refine j_bipush (v := (-103)) (p2 := 31) dM_rule_29 rfl rfl ?_
        refine j_ireturn dM_rule_31 rfl (by exact h2 ⟨dec_t h6, dec_t h16⟩ h26)
    · refine j_bipush (v := (-102)) (p2 := 21) dM_rule_19 rfl rfl ?_
      refine j_ireturn dM_rule_21 rfl (by first | exact h1 (fun q => of_decide_eq_false h6 q.1) | exact h1 (fun q => of_decide_eq_false h16 q.2))
theorem cM_fail {m t : Int} (hs : Sc σ) (hm : inR m) (ht : inR t) (h1 : ¬ isM σ m → Q (some (vI (-101))) σ) (h2 : isM σ m → ¬ (0 ≤ t ∧ t ≤ 300) → Q (some (vI (-102))) σ) (h3 : isM σ m → (0 ≤ t ∧ t ≤ 300) → Q (some (vI 1)) (wI σ 78 (fup (hI σ 78) m t))) : Sp mM_fail [vR 69, vI m, vI t] σ Q := by
  obtain ⟨s1, s2, s3, s4⟩ := hs
  refine j_aload_n (p2 := 1) dM_fail_0 rfl rfl ?_
  refine j_iload_n (p2 := 2) dM_fail_1 rfl rfl ?_
  refine j_callV (m' := mM_isModule) (As := [_]) (p2 := 5) dM_fail_2 rfl ml_M_198 ok_mM_isModule im_mM_isModule se_mM_isModule rfl rfl (Nat.le_of_ble_eq_true rfl) ly_69 rfl (Nat.le_of_ble_eq_true rfl) ⟨(Nat.le_of_ble_eq_true rfl), (Nat.le_of_ble_eq_true rfl)⟩ ?_
  refine cM_isModule hm s1 ?_
  refine j_ifb_ne (p2 := 8) (tg := 11) dM_fail_5 rfl (by decide) (fun h5 => ?_) (fun h5 => ?_)
  · refine j_iload_n (p2 := 12) dM_fail_11 rfl rfl ?_
    refine j_iconst (p2 := 13) dM_fail_12 rfl ?_
    refine j_sipush (v := 300) (p2 := 16) dM_fail_13 rfl rfl ?_
    refine j_callS (m' := mM_in) (As := [_, _, _]) (p2 := 19) dM_fail_16 rfl ml_M_161 ok_mM_in sm_mM_in rfl rfl (Nat.le_of_ble_eq_true rfl) (Nat.le_of_ble_eq_true rfl) ⟨(Nat.le_of_ble_eq_true rfl), (Nat.le_of_ble_eq_true rfl)⟩ ?_
    refine cM_in ht (by constructor <;> omega) (by constructor <;> omega) ?_
    refine j_ifb_ne (p2 := 22) (tg := 25) dM_fail_19 rfl (by decide) (fun h19 => ?_) (fun h19 => ?_)
    · refine j_aload_n (p2 := 26) dM_fail_25 rfl rfl ?_
      refine j_getR (p2 := 29) dM_fail_26 rfl fa_M_36 ly_69 rfl ?_
      refine j_iload_n (p2 := 30) dM_fail_29 rfl rfl ?_
      refine j_iload_n (p2 := 31) dM_fail_30 rfl rfl ?_
      refine j_iastk (p2 := 32) dM_fail_31 rfl ly_78 (by decide) (by have := dec_t h5; omega) (by have := dec_t h5; omega) ?_
      refine j_iconst (p2 := 33) dM_fail_32 rfl ?_
      refine j_ireturn dM_fail_33 rfl (by exact h3 (dec_t h5) (dec_t h19))
    · refine j_bipush (v := (-102)) (p2 := 24) dM_fail_22 rfl rfl ?_
      refine j_ireturn dM_fail_24 rfl (by exact h2 (dec_t h5) (of_decide_eq_false h19))
  · refine j_bipush (v := (-101)) (p2 := 10) dM_fail_8 rfl rfl ?_
    refine j_ireturn dM_fail_10 rfl (by exact h1 (of_decide_eq_false h5))
theorem cM_lamp {m : Int} (hs : Sc σ) (hm : inR m) (hQ : Q (some (vI (if isM σ m then hI σ 87 m else -101))) σ) : Sp mM_lamp [vR 69, vI m] σ Q := by
  obtain ⟨s1, s2, s3, s4⟩ := hs
  refine j_aload_n (p2 := 1) dM_lamp_0 rfl rfl ?_
  refine j_iload_n (p2 := 2) dM_lamp_1 rfl rfl ?_
  refine j_callV (m' := mM_isModule) (As := [_]) (p2 := 5) dM_lamp_2 rfl ml_M_198 ok_mM_isModule im_mM_isModule se_mM_isModule rfl rfl (Nat.le_of_ble_eq_true rfl) ly_69 rfl (Nat.le_of_ble_eq_true rfl) ⟨(Nat.le_of_ble_eq_true rfl), (Nat.le_of_ble_eq_true rfl)⟩ ?_
  refine cM_isModule hm s1 ?_
  refine j_ifb_eq (p2 := 8) (tg := 17) dM_lamp_5 rfl (by decide) (fun h5 => ?_) (fun h5 => ?_)
  · refine j_bipush (v := (-101)) (p2 := 19) dM_lamp_17 rfl rfl ?_
    refine j_ireturn dM_lamp_19 rfl (by first | (rw [if_pos (dec_t h5)] at hQ; exact hQ) | (rw [if_neg (of_decide_eq_false h5)] at hQ; exact hQ))
  · refine j_aload_n (p2 := 9) dM_lamp_8 rfl rfl ?_
    refine j_getR (p2 := 12) dM_lamp_9 rfl fa_M_68 ly_69 rfl ?_
    refine j_iload_n (p2 := 13) dM_lamp_12 rfl rfl ?_
    refine j_iald (p2 := 14) dM_lamp_13 rfl ly_87 (by decide) (by have := dec_t h5; omega) (by have := dec_t h5; omega) ?_
    refine j_goto (p2 := 19) dM_lamp_14 (by decide) ?_
    refine j_ireturn dM_lamp_19 rfl (by first | (rw [if_pos (dec_t h5)] at hQ; exact hQ) | (rw [if_neg (of_decide_eq_false h5)] at hQ; exact hQ))
theorem cM_samples {m : Int} (hs : Sc σ) (hm : inR m) (hQ : Q (some (vI (if isS σ m then hI σ 101 m else -101))) σ) : Sp mM_samples [vR 69, vI m] σ Q := by
  obtain ⟨s1, s2, s3, s4⟩ := hs
  refine j_aload_n (p2 := 1) dM_samples_0 rfl rfl ?_
  refine j_iload_n (p2 := 2) dM_samples_1 rfl rfl ?_
  refine j_callV (m' := mM_isStrip) (As := [_]) (p2 := 5) dM_samples_2 rfl ml_M_359 ok_mM_isStrip im_mM_isStrip se_mM_isStrip rfl rfl (Nat.le_of_ble_eq_true rfl) ly_69 rfl (Nat.le_of_ble_eq_true rfl) ⟨(Nat.le_of_ble_eq_true rfl), (Nat.le_of_ble_eq_true rfl)⟩ ?_
  refine cM_isStrip hm s3 ?_
  refine j_ifb_eq (p2 := 8) (tg := 17) dM_samples_5 rfl (by decide) (fun h5 => ?_) (fun h5 => ?_)
  · refine j_bipush (v := (-101)) (p2 := 19) dM_samples_17 rfl rfl ?_
    refine j_ireturn dM_samples_19 rfl (by first | (rw [if_pos (dec_t h5)] at hQ; exact hQ) | (rw [if_neg (of_decide_eq_false h5)] at hQ; exact hQ))
  · refine j_aload_n (p2 := 9) dM_samples_8 rfl rfl ?_
    refine j_getR (p2 := 12) dM_samples_9 rfl fa_M_110 ly_69 rfl ?_
    refine j_iload_n (p2 := 13) dM_samples_12 rfl rfl ?_
    refine j_iald (p2 := 14) dM_samples_13 rfl ly_101 (by decide) (by have := dec_t h5; omega) (by have := dec_t h5; omega) ?_
    refine j_goto (p2 := 19) dM_samples_14 (by decide) ?_
    refine j_ireturn dM_samples_19 rfl (by first | (rw [if_pos (dec_t h5)] at hQ; exact hQ) | (rw [if_neg (of_decide_eq_false h5)] at hQ; exact hQ))
theorem cM_strip {m : Int} (hs : Sc σ) (hm : inR m) (h1 : ¬ isM σ m → Q (some (vI (-101))) σ) (h2 : isM σ m → ¬ hI σ 69 11 = 0 → Q (some (vI (-103))) σ) (h3 : isM σ m → hI σ 69 11 = 0 → hI σ 69 37 = 6 → Q (some (vI (-104))) σ)
    (h4 : isM σ m → hI σ 69 11 = 0 → hI σ 69 37 < 6 → Q (some (vI (hI σ 69 37))) (wI (wI (wI σ 100 (fup (hI σ 100) (hI σ 69 37) m)) 101 (fup (hI σ 101) (hI σ 69 37) 0)) 69 (fup (hI σ 69) 37 (hI σ 69 37 + 1)))) : Sp mM_strip [vR 69, vI m] σ Q := by
  obtain ⟨s1, s2, s3, s4⟩ := hs
  have e : ∀ σ' : Hp, hI σ' 69 = hI σ 69 → hI (wI σ' 69 (fup (hI σ' 69) 37 (hI σ' 69 37 + 1))) 69 37 - 1 = hI σ 69 37 := fun σ' h => by
    show fup (hI σ' 69) 37 (hI σ' 69 37 + 1) 37 - 1 = _
    rw [fup_s, h]; omega
  refine j_aload_n (p2 := 1) dM_strip_0 rfl rfl ?_
  refine j_iload_n (p2 := 2) dM_strip_1 rfl rfl ?_
  refine j_callV (m' := mM_isModule) (As := [_]) (p2 := 5) dM_strip_2 rfl ml_M_198 ok_mM_isModule im_mM_isModule se_mM_isModule rfl rfl (Nat.le_of_ble_eq_true rfl) ly_69 rfl (Nat.le_of_ble_eq_true rfl) ⟨(Nat.le_of_ble_eq_true rfl), (Nat.le_of_ble_eq_true rfl)⟩ ?_
  refine cM_isModule hm s1 ?_
  refine j_ifb_ne (p2 := 8) (tg := 11) dM_strip_5 rfl (by decide) (fun h5 => ?_) (fun h5 => ?_)
  · refine j_aload_n (p2 := 12) dM_strip_11 rfl rfl ?_
    refine j_getIk (p2 := 15) dM_strip_12 rfl fa_M_195 ly_69 rfl (ki := 11) rfl ?_
    refine j_if_eq (p2 := 18) (tg := 21) dM_strip_15 rfl (by decide) (by constructor <;> omega) (fun h15 => ?_) (fun h15 => ?_)
    · refine j_aload_n (p2 := 22) dM_strip_21 rfl rfl ?_
      refine j_getIk (p2 := 25) dM_strip_22 rfl fa_M_332 ly_69 rfl (ki := 37) rfl ?_
      refine j_bipush (v := 6) (p2 := 27) dM_strip_25 rfl rfl ?_
      refine j_icmp_ne (p2 := 30) (tg := 33) dM_strip_27 rfl (by decide) (by constructor <;> omega) (by constructor <;> omega) (fun h27 => ?_) (fun h27 => ?_)
      · refine j_aload_n (p2 := 34) dM_strip_33 rfl rfl ?_
        refine j_getR (p2 := 37) dM_strip_34 rfl fa_M_107 ly_69 rfl ?_
        refine j_aload_n (p2 := 38) dM_strip_37 rfl rfl ?_
        refine j_getIk (p2 := 41) dM_strip_38 rfl fa_M_332 ly_69 rfl (ki := 37) rfl ?_
        refine j_iload_n (p2 := 42) dM_strip_41 rfl rfl ?_
        refine j_iastk (p2 := 43) dM_strip_42 rfl ly_100 (by decide) (by omega) (by omega) ?_
        refine j_aload_n (p2 := 44) dM_strip_43 rfl rfl ?_
        refine j_getR (p2 := 47) dM_strip_44 rfl fa_M_110 ly_69 rfl ?_
        refine j_aload_n (p2 := 48) dM_strip_47 rfl rfl ?_
        refine j_getIk (p2 := 51) dM_strip_48 rfl fa_M_332 ly_69 rfl (ki := 37) rfl ?_
        refine j_iconst (p2 := 52) dM_strip_51 rfl ?_
        refine j_iastk (p2 := 53) dM_strip_52 rfl ly_101 (by decide) (show 0 ≤ hI σ 69 37 by omega) (show hI σ 69 37 < 6 by omega) ?_
        refine j_aload_n (p2 := 54) dM_strip_53 rfl rfl ?_
        refine j_dup (p2 := 55) dM_strip_54 rfl rfl ?_
        refine j_getIk (p2 := 58) dM_strip_55 rfl fa_M_332 ly_69 rfl (ki := 37) rfl ?_
        refine j_iconst (p2 := 59) dM_strip_58 rfl ?_
        refine j_iadd (p2 := 60) dM_strip_59 rfl ?_
        refine j_putIk (p2 := 63) dM_strip_60 rfl fw_M_332 ly_69 rfl (ki := 37) rfl ?_
        refine j_aload_n (p2 := 64) dM_strip_63 rfl rfl ?_
        refine j_getIk (p2 := 67) dM_strip_64 rfl fa_M_332 ly_69 rfl (ki := 37) rfl ?_
        refine j_iconst (p2 := 68) dM_strip_67 rfl ?_
        refine j_isub (p2 := 69) dM_strip_68 rfl ?_
        refine j_ireturn dM_strip_69 rfl (by exact Q_of (h4 (dec_t h5) h15 (by omega)) (congrArg (fun z => some (vI z)) (e (wI (wI σ 100 (fup (hI σ 100) (hI σ 69 37) m)) 101 (fup (hI σ 101) (hI σ 69 37) 0)) rfl).symm) rfl)
      · refine j_bipush (v := (-104)) (p2 := 32) dM_strip_30 rfl rfl ?_
        refine j_ireturn dM_strip_32 rfl (by exact h3 (dec_t h5) h15 h27)
    · refine j_bipush (v := (-103)) (p2 := 20) dM_strip_18 rfl rfl ?_
      refine j_ireturn dM_strip_20 rfl (by exact h2 (dec_t h5) h15)
  · refine j_bipush (v := (-101)) (p2 := 10) dM_strip_8 rfl rfl ?_
    refine j_ireturn dM_strip_10 rfl (by exact h1 (of_decide_eq_false h5))
def abt (σ : Hp) (m w : Int) : Int := if w = 0 then hI σ 70 m else if w < 7 then hI σ 72 (6 * m + w - 1) else if w < 13 then (if hI σ 73 (6 * m + w - 7) = 0 then 0 else 1) else if w = 13 then hI σ 75 m else hI σ 78 m
theorem cM_about {m w : Int} (hs : Sc σ) (hm : inR m) (hw : inR w) (ht : ∀ k : Int, 0 ≤ k → k < 120 → inR (hI σ 73 k)) (hQ : Q (some (vI (if isM σ m then (if 0 ≤ w ∧ w ≤ 14 then abt σ m w else -102) else -101))) σ) : Sp mM_about [vR 69, vI m, vI w] σ Q := by
  obtain ⟨s1, s2, s3, s4⟩ := hs
  have k1 : isM σ m → 0 ≤ w ∧ w ≤ 14 → Q (some (vI (abt σ m w))) σ := fun a b => by rw [if_pos a, if_pos b] at hQ; exact hQ
  unfold abt at k1
  refine j_aload_n (p2 := 1) dM_about_0 rfl rfl ?_
  refine j_iload_n (p2 := 2) dM_about_1 rfl rfl ?_
  refine j_callV (m' := mM_isModule) (As := [_]) (p2 := 5) dM_about_2 rfl ml_M_198 ok_mM_isModule im_mM_isModule se_mM_isModule rfl rfl (Nat.le_of_ble_eq_true rfl) ly_69 rfl (Nat.le_of_ble_eq_true rfl) ⟨(Nat.le_of_ble_eq_true rfl), (Nat.le_of_ble_eq_true rfl)⟩ ?_
  refine cM_isModule hm s1 ?_
  refine j_ifb_ne (p2 := 8) (tg := 11) dM_about_5 rfl (by decide) (fun h5 => ?_) (fun h5 => ?_)
  · refine j_iload_n (p2 := 12) dM_about_11 rfl rfl ?_
    refine j_iconst (p2 := 13) dM_about_12 rfl ?_
    refine j_bipush (v := 14) (p2 := 15) dM_about_13 rfl rfl ?_
    refine j_callS (m' := mM_in) (As := [_, _, _]) (p2 := 18) dM_about_15 rfl ml_M_161 ok_mM_in sm_mM_in rfl rfl (Nat.le_of_ble_eq_true rfl) (Nat.le_of_ble_eq_true rfl) ⟨(Nat.le_of_ble_eq_true rfl), (Nat.le_of_ble_eq_true rfl)⟩ ?_
    refine cM_in hw (by constructor <;> omega) (by constructor <;> omega) ?_
    refine j_ifb_ne (p2 := 21) (tg := 24) dM_about_18 rfl (by decide) (fun h18 => ?_) (fun h18 => ?_)
    · refine J.loc (lv' := [(0, _), (1, _), (2, _)]) ⟨rfl, rfl, rfl, trivial⟩ ?_
      have a := dec_t h5
      have b := dec_t h18
      have k2 := k1 a b
      refine j_iload_n (p2 := 25) dM_about_24 rfl rfl ?_
      refine j_if_ne (p2 := 28) (tg := 35) dM_about_25 rfl (by decide) (by constructor <;> omega) (fun h25 => ?_) (fun h25 => ?_)
      · refine j_iload_n (p2 := 36) dM_about_35 rfl rfl ?_
        refine j_bipush (v := 7) (p2 := 38) dM_about_36 rfl rfl ?_
        refine j_icmp_ge (p2 := 41) (tg := 55) dM_about_38 rfl (by decide) (by constructor <;> omega) (by constructor <;> omega) (fun h38 => ?_) (fun h38 => ?_)
        · refine j_iload_n (p2 := 56) dM_about_55 rfl rfl ?_
          refine j_bipush (v := 13) (p2 := 58) dM_about_56 rfl rfl ?_
          refine j_icmp_ge (p2 := 61) (tg := 86) dM_about_58 rfl (by decide) (by constructor <;> omega) (by constructor <;> omega) (fun h58 => ?_) (fun h58 => ?_)
          · refine j_iload_n (p2 := 87) dM_about_86 rfl rfl ?_
            refine j_bipush (v := 13) (p2 := 89) dM_about_87 rfl rfl ?_
            refine j_icmp_ne (p2 := 92) (tg := 101) dM_about_89 rfl (by decide) (by constructor <;> omega) (by constructor <;> omega) (fun h89 => ?_) (fun h89 => ?_)
            · refine j_aload_n (p2 := 102) dM_about_101 rfl rfl ?_
              refine j_getR (p2 := 105) dM_about_102 rfl fa_M_36 ly_69 rfl ?_
              refine j_iload_n (p2 := 106) dM_about_105 rfl rfl ?_
              refine j_iald (p2 := 107) dM_about_106 rfl ly_78 (by decide) (by omega) (by omega) ?_
              refine j_ireturn dM_about_107 rfl (by rw [if_neg h25, if_neg (by omega)] at k2; first | (rw [if_pos (by omega), if_pos h75] at k2; exact k2) | (rw [if_pos (by omega), if_neg h75] at k2; exact k2) | (rw [if_neg (by omega), if_pos h89] at k2; exact k2) | (rw [if_neg (by omega), if_neg h89] at k2; exact k2))
            · refine j_aload_n (p2 := 93) dM_about_92 rfl rfl ?_
              refine j_getR (p2 := 96) dM_about_93 rfl fa_M_27 ly_69 rfl ?_
              refine j_iload_n (p2 := 97) dM_about_96 rfl rfl ?_
              refine j_iald (p2 := 98) dM_about_97 rfl ly_75 (by decide) (by omega) (by omega) ?_
              refine j_goto (p2 := 107) dM_about_98 (by decide) ?_
              refine j_ireturn dM_about_107 rfl (by rw [if_neg h25, if_neg (by omega)] at k2; first | (rw [if_pos (by omega), if_pos h75] at k2; exact k2) | (rw [if_pos (by omega), if_neg h75] at k2; exact k2) | (rw [if_neg (by omega), if_pos h89] at k2; exact k2) | (rw [if_neg (by omega), if_neg h89] at k2; exact k2))
          · refine j_aload_n (p2 := 62) dM_about_61 rfl rfl ?_
            refine j_getR (p2 := 65) dM_about_62 rfl fa_M_20 ly_69 rfl ?_
            refine j_bipush (v := 6) (p2 := 67) dM_about_65 rfl rfl ?_
            refine j_iload_n (p2 := 68) dM_about_67 rfl rfl ?_
            refine j_imul (p2 := 69) dM_about_68 rfl ?_
            refine j_iload_n (p2 := 70) dM_about_69 rfl rfl ?_
            refine j_iadd (p2 := 71) dM_about_70 rfl ?_
            refine j_bipush (v := 7) (p2 := 73) dM_about_71 rfl rfl ?_
            refine j_isub (p2 := 74) dM_about_73 rfl ?_
            refine j_zald (p2 := 75) dM_about_74 rfl ly_73 (by decide) (by omega) (by omega) ?_
            refine j_if_eq (p2 := 78) (tg := 82) dM_about_75 rfl (by decide) (ht _ (by omega) (by omega)) (fun h75 => ?_) (fun h75 => ?_)
            · refine j_iconst (p2 := 83) dM_about_82 rfl ?_
              refine j_goto (p2 := 107) dM_about_83 (by decide) ?_
              refine j_ireturn dM_about_107 rfl (by rw [if_neg h25, if_neg (by omega)] at k2; first | (rw [if_pos (by omega), if_pos h75] at k2; exact k2) | (rw [if_pos (by omega), if_neg h75] at k2; exact k2) | (rw [if_neg (by omega), if_pos h89] at k2; exact k2) | (rw [if_neg (by omega), if_neg h89] at k2; exact k2))
            · refine j_iconst (p2 := 79) dM_about_78 rfl ?_
              refine j_goto (p2 := 107) dM_about_79 (by decide) ?_
              refine j_ireturn dM_about_107 rfl (by rw [if_neg h25, if_neg (by omega)] at k2; first | (rw [if_pos (by omega), if_pos h75] at k2; exact k2) | (rw [if_pos (by omega), if_neg h75] at k2; exact k2) | (rw [if_neg (by omega), if_pos h89] at k2; exact k2) | (rw [if_neg (by omega), if_neg h89] at k2; exact k2))
        · refine j_aload_n (p2 := 42) dM_about_41 rfl rfl ?_
          refine j_getR (p2 := 45) dM_about_42 rfl fa_M_17 ly_69 rfl ?_
          refine j_bipush (v := 6) (p2 := 47) dM_about_45 rfl rfl ?_
          refine j_iload_n (p2 := 48) dM_about_47 rfl rfl ?_
          refine j_imul (p2 := 49) dM_about_48 rfl ?_
          refine j_iload_n (p2 := 50) dM_about_49 rfl rfl ?_
          refine j_iadd (p2 := 51) dM_about_50 rfl ?_
          refine j_iconst (p2 := 52) dM_about_51 rfl ?_
          refine j_isub (p2 := 53) dM_about_52 rfl ?_
          refine j_iald (p2 := 54) dM_about_53 rfl ly_72 (by decide) (by omega) (by omega) ?_
          refine j_ireturn dM_about_54 rfl (by rw [if_neg h25, if_pos (by omega)] at k2; exact k2)
      · refine j_aload_n (p2 := 29) dM_about_28 rfl rfl ?_
        refine j_getR (p2 := 32) dM_about_29 rfl fa_M_7 ly_69 rfl ?_
        refine j_iload_n (p2 := 33) dM_about_32 rfl rfl ?_
        refine j_iald (p2 := 34) dM_about_33 rfl ly_70 (by decide) (by omega) (by omega) ?_
        refine j_ireturn dM_about_34 rfl (by rw [if_pos h25] at k2; exact k2)
    · refine j_bipush (v := (-102)) (p2 := 23) dM_about_21 rfl rfl ?_
      refine j_ireturn dM_about_23 rfl (by rw [if_pos (dec_t h5), if_neg (of_decide_eq_false h18)] at hQ; exact hQ)
  · refine j_bipush (v := (-101)) (p2 := 10) dM_about_8 rfl rfl ?_
    refine j_ireturn dM_about_10 rfl (by rw [if_neg (of_decide_eq_false h5)] at hQ; exact hQ)
theorem cM_level {m : Int} (hs : Sc σ) (hm : inR m) (hN : hI σ 69 0 = N) (hc : CdN (hI σ 72) N) (hk : ∀ m : Int, 0 ≤ m → m < N → inR (hI σ 70 m)) (h1 : ¬ isM σ m → Q (some (vI (-101))) σ) (h2 : isM σ m → Q (some (vI (lvs (hI σ 70) (hI σ 72) (hI σ 79) N m))) (wI σ 79 (lvs (hI σ 70) (hI σ 72) (hI σ 79) N))) : Sp mM_level [vR 69, vI m] σ Q := by
  obtain ⟨s1, s2, s3, s4⟩ := hs
  refine j_aload_n (p2 := 1) dM_level_0 rfl rfl ?_
  refine j_iload_n (p2 := 2) dM_level_1 rfl rfl ?_
  refine j_callV (m' := mM_isModule) (As := [_]) (p2 := 5) dM_level_2 rfl ml_M_198 ok_mM_isModule im_mM_isModule se_mM_isModule rfl rfl (Nat.le_of_ble_eq_true rfl) ly_69 rfl (Nat.le_of_ble_eq_true rfl) ⟨(Nat.le_of_ble_eq_true rfl), (Nat.le_of_ble_eq_true rfl)⟩ ?_
  refine cM_isModule hm s1 ?_
  refine j_ifb_ne (p2 := 8) (tg := 11) dM_level_5 rfl (by decide) (fun h5 => ?_) (fun h5 => ?_)
  · refine j_aload_n (p2 := 12) dM_level_11 rfl rfl ?_
    refine j_callV (m' := mM_levelAll) (As := []) (p2 := 15) dM_level_12 rfl ml_M_230 ok_mM_levelAll im_mM_levelAll se_mM_levelAll rfl rfl (Nat.le_of_ble_eq_true rfl) ly_69 rfl (Nat.le_of_ble_eq_true rfl) ⟨(Nat.le_of_ble_eq_true rfl), (Nat.le_of_ble_eq_true rfl)⟩ ?_
    refine cM_levelAll ⟨hN, by omega⟩ hc hk ?_
    refine j_aload_n (p2 := 16) dM_level_15 rfl rfl ?_
    refine j_getR (p2 := 19) dM_level_16 rfl fa_M_39 ly_69 rfl ?_
    refine j_iload_n (p2 := 20) dM_level_19 rfl rfl ?_
    refine j_iald (p2 := 21) dM_level_20 rfl ly_79 (by decide) (by have := dec_t h5; omega) (by have := dec_t h5; omega) ?_
    refine j_ireturn dM_level_21 rfl (by exact h2 (dec_t h5))
  · refine j_bipush (v := (-101)) (p2 := 10) dM_level_8 rfl rfl ?_
    refine j_ireturn dM_level_10 rfl (by exact h1 (of_decide_eq_false h5))
theorem cM_reading {m : Int} (hs : Sc σ) (hm : inR m) (hb : isM σ m → vf_n64 (hD σ 82 m)) (hQ : Q (some (vL (if isM σ m ∧ ¬ hI σ 69 11 = 0 then (hD σ 82 m).toInt64 else 0))) σ) : Sp mM_reading [vR 69, vI m] σ Q := by
  obtain ⟨s1, s2, s3, s4⟩ := hs
  refine j_aload_n (p2 := 1) dM_reading_0 rfl rfl ?_
  refine j_iload_n (p2 := 2) dM_reading_1 rfl rfl ?_
  refine j_callV (m' := mM_isModule) (As := [_]) (p2 := 5) dM_reading_2 rfl ml_M_198 ok_mM_isModule im_mM_isModule se_mM_isModule rfl rfl (Nat.le_of_ble_eq_true rfl) ly_69 rfl (Nat.le_of_ble_eq_true rfl) ⟨(Nat.le_of_ble_eq_true rfl), (Nat.le_of_ble_eq_true rfl)⟩ ?_
  refine cM_isModule hm s1 ?_
  refine j_ifb_eq (p2 := 8) (tg := 27) dM_reading_5 rfl (by decide) (fun h5 => ?_) (fun h5 => ?_)
  · refine j_lconst (v := 0) (p2 := 28) dM_reading_27 rfl rfl ?_
    refine j_lreturn dM_reading_28 rfl (by first | (have g := of_decide_eq_false h5; rw [if_neg (by omega)] at hQ; exact hQ) | (have g := dec_t h5; first | (rw [if_pos (by omega)] at hQ; exact hQ) | (rw [if_neg (by omega)] at hQ; exact hQ)))
  · refine j_aload_n (p2 := 9) dM_reading_8 rfl rfl ?_
    refine j_getIk (p2 := 12) dM_reading_9 rfl fa_M_195 ly_69 rfl (ki := 11) rfl ?_
    refine j_if_eq (p2 := 15) (tg := 27) dM_reading_12 rfl (by decide) (by constructor <;> omega) (fun h12 => ?_) (fun h12 => ?_)
    · refine j_lconst (v := 0) (p2 := 28) dM_reading_27 rfl rfl ?_
      refine j_lreturn dM_reading_28 rfl (by first | (have g := of_decide_eq_false h5; rw [if_neg (by omega)] at hQ; exact hQ) | (have g := dec_t h5; first | (rw [if_pos (by omega)] at hQ; exact hQ) | (rw [if_neg (by omega)] at hQ; exact hQ)))
    · refine j_aload_n (p2 := 16) dM_reading_15 rfl rfl ?_
      refine j_getR (p2 := 19) dM_reading_16 rfl fa_M_53 ly_69 rfl ?_
      refine j_iload_n (p2 := 20) dM_reading_19 rfl rfl ?_
      refine j_dald (p2 := 21) dM_reading_20 rfl ly_82 (by decide) (by have := dec_t h5; omega) (by have := dec_t h5; omega) ?_
      refine j_callS (m' := mJD_doubleToLongBits) (As := [_]) (p2 := 24) dM_reading_21 rfl ml_M_250 ok_mJD_doubleToLongBits sm_mJD_doubleToLongBits rfl rfl (Nat.le_of_ble_eq_true rfl) (Nat.le_of_ble_eq_true rfl) ⟨(Nat.le_of_ble_eq_true rfl), (Nat.le_of_ble_eq_true rfl)⟩ ?_
      refine cJD_doubleToLongBits (hb (dec_t h5)) ?_
      refine j_goto (p2 := 28) dM_reading_24 (by decide) ?_
      refine j_lreturn dM_reading_28 rfl (by first | (have g := of_decide_eq_false h5; rw [if_neg (by omega)] at hQ; exact hQ) | (have g := dec_t h5; first | (rw [if_pos (by omega)] at hQ; exact hQ) | (rw [if_neg (by omega)] at hQ; exact hQ)))
theorem cM_apart {m : Int} (hs : Sc σ) (hm : inR m) (hb : isM σ m → vf_n64 (hD σ 88 m)) (hQ : Q (some (vL (if isM σ m ∧ ¬ hI σ 69 11 = 0 then (hD σ 88 m).toInt64 else 0))) σ) : Sp mM_apart [vR 69, vI m] σ Q := by
  obtain ⟨s1, s2, s3, s4⟩ := hs
  refine j_aload_n (p2 := 1) dM_apart_0 rfl rfl ?_
  refine j_iload_n (p2 := 2) dM_apart_1 rfl rfl ?_
  refine j_callV (m' := mM_isModule) (As := [_]) (p2 := 5) dM_apart_2 rfl ml_M_198 ok_mM_isModule im_mM_isModule se_mM_isModule rfl rfl (Nat.le_of_ble_eq_true rfl) ly_69 rfl (Nat.le_of_ble_eq_true rfl) ⟨(Nat.le_of_ble_eq_true rfl), (Nat.le_of_ble_eq_true rfl)⟩ ?_
  refine cM_isModule hm s1 ?_
  refine j_ifb_eq (p2 := 8) (tg := 27) dM_apart_5 rfl (by decide) (fun h5 => ?_) (fun h5 => ?_)
  · refine j_lconst (v := 0) (p2 := 28) dM_apart_27 rfl rfl ?_
    refine j_lreturn dM_apart_28 rfl (by first | (have g := of_decide_eq_false h5; rw [if_neg (by omega)] at hQ; exact hQ) | (have g := dec_t h5; first | (rw [if_pos (by omega)] at hQ; exact hQ) | (rw [if_neg (by omega)] at hQ; exact hQ)))
  · refine j_aload_n (p2 := 9) dM_apart_8 rfl rfl ?_
    refine j_getIk (p2 := 12) dM_apart_9 rfl fa_M_195 ly_69 rfl (ki := 11) rfl ?_
    refine j_if_eq (p2 := 15) (tg := 27) dM_apart_12 rfl (by decide) (by constructor <;> omega) (fun h12 => ?_) (fun h12 => ?_)
    · refine j_lconst (v := 0) (p2 := 28) dM_apart_27 rfl rfl ?_
      refine j_lreturn dM_apart_28 rfl (by first | (have g := of_decide_eq_false h5; rw [if_neg (by omega)] at hQ; exact hQ) | (have g := dec_t h5; first | (rw [if_pos (by omega)] at hQ; exact hQ) | (rw [if_neg (by omega)] at hQ; exact hQ)))
    · refine j_aload_n (p2 := 16) dM_apart_15 rfl rfl ?_
      refine j_getR (p2 := 19) dM_apart_16 rfl fa_M_71 ly_69 rfl ?_
      refine j_iload_n (p2 := 20) dM_apart_19 rfl rfl ?_
      refine j_dald (p2 := 21) dM_apart_20 rfl ly_88 (by decide) (by have := dec_t h5; omega) (by have := dec_t h5; omega) ?_
      refine j_callS (m' := mJD_doubleToLongBits) (As := [_]) (p2 := 24) dM_apart_21 rfl ml_M_250 ok_mJD_doubleToLongBits sm_mJD_doubleToLongBits rfl rfl (Nat.le_of_ble_eq_true rfl) (Nat.le_of_ble_eq_true rfl) ⟨(Nat.le_of_ble_eq_true rfl), (Nat.le_of_ble_eq_true rfl)⟩ ?_
      refine cJD_doubleToLongBits (hb (dec_t h5)) ?_
      refine j_goto (p2 := 28) dM_apart_24 (by decide) ?_
      refine j_lreturn dM_apart_28 rfl (by first | (have g := of_decide_eq_false h5; rw [if_neg (by omega)] at hQ; exact hQ) | (have g := dec_t h5; first | (rw [if_pos (by omega)] at hQ; exact hQ) | (rw [if_neg (by omega)] at hQ; exact hQ)))
theorem cM_single {m : Int} (hs : Sc σ) (hm : inR m) (hb : isM σ m → vf_n32 (hF σ 83 m)) (hQ : Q (some (vI (if isM σ m ∧ ¬ hI σ 69 11 = 0 then (hF σ 83 m).toInt32.toInt else 0))) σ) : Sp mM_single [vR 69, vI m] σ Q := by
  obtain ⟨s1, s2, s3, s4⟩ := hs
  refine j_aload_n (p2 := 1) dM_single_0 rfl rfl ?_
  refine j_iload_n (p2 := 2) dM_single_1 rfl rfl ?_
  refine j_callV (m' := mM_isModule) (As := [_]) (p2 := 5) dM_single_2 rfl ml_M_198 ok_mM_isModule im_mM_isModule se_mM_isModule rfl rfl (Nat.le_of_ble_eq_true rfl) ly_69 rfl (Nat.le_of_ble_eq_true rfl) ⟨(Nat.le_of_ble_eq_true rfl), (Nat.le_of_ble_eq_true rfl)⟩ ?_
  refine cM_isModule hm s1 ?_
  refine j_ifb_eq (p2 := 8) (tg := 27) dM_single_5 rfl (by decide) (fun h5 => ?_) (fun h5 => ?_)
  · refine j_iconst (p2 := 28) dM_single_27 rfl ?_
    refine j_ireturn dM_single_28 rfl (by first | (have g := of_decide_eq_false h5; rw [if_neg (by omega)] at hQ; exact hQ) | (have g := dec_t h5; first | (rw [if_pos (by omega)] at hQ; exact hQ) | (rw [if_neg (by omega)] at hQ; exact hQ)))
  · refine j_aload_n (p2 := 9) dM_single_8 rfl rfl ?_
    refine j_getIk (p2 := 12) dM_single_9 rfl fa_M_195 ly_69 rfl (ki := 11) rfl ?_
    refine j_if_eq (p2 := 15) (tg := 27) dM_single_12 rfl (by decide) (by constructor <;> omega) (fun h12 => ?_) (fun h12 => ?_)
    · refine j_iconst (p2 := 28) dM_single_27 rfl ?_
      refine j_ireturn dM_single_28 rfl (by first | (have g := of_decide_eq_false h5; rw [if_neg (by omega)] at hQ; exact hQ) | (have g := dec_t h5; first | (rw [if_pos (by omega)] at hQ; exact hQ) | (rw [if_neg (by omega)] at hQ; exact hQ)))
    · refine j_aload_n (p2 := 16) dM_single_15 rfl rfl ?_
      refine j_getR (p2 := 19) dM_single_16 rfl fa_M_56 ly_69 rfl ?_
      refine j_iload_n (p2 := 20) dM_single_19 rfl rfl ?_
      refine j_fald (p2 := 21) dM_single_20 rfl ly_83 (by decide) (by have := dec_t h5; omega) (by have := dec_t h5; omega) ?_
      refine j_callS (m' := mJF_floatToIntBits) (As := [_]) (p2 := 24) dM_single_21 rfl ml_M_353 ok_mJF_floatToIntBits sm_mJF_floatToIntBits rfl rfl (Nat.le_of_ble_eq_true rfl) (Nat.le_of_ble_eq_true rfl) ⟨(Nat.le_of_ble_eq_true rfl), (Nat.le_of_ble_eq_true rfl)⟩ ?_
      refine cJF_floatToIntBits (hb (dec_t h5)) ?_
      refine j_goto (p2 := 28) dM_single_24 (by decide) ?_
      refine j_ireturn dM_single_28 rfl (by first | (have g := of_decide_eq_false h5; rw [if_neg (by omega)] at hQ; exact hQ) | (have g := dec_t h5; first | (rw [if_pos (by omega)] at hQ; exact hQ) | (rw [if_neg (by omega)] at hQ; exact hQ)))
end REF21
