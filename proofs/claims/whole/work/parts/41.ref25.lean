/-! ===== the reference: module, cord ===== -/
section REF25
variable {σ : Hp} {Q : Option PV → Hp → Prop} {N : Nat}
theorem cM_module {k : Int} {x : Int64} (hs : Sc σ) (hk : inR k) (h1 : ¬ ((0 ≤ k ∧ k ≤ 13) ∧ isNum x ∧ isSet k x.toUInt64 = true) → Q (some (vI (-102))) σ) (h2 : ((0 ≤ k ∧ k ≤ 13) ∧ isNum x ∧ isSet k x.toUInt64 = true) → ¬ hI σ 69 11 = 0 → Q (some (vI (-103))) σ) (h3 : ((0 ≤ k ∧ k ≤ 13) ∧ isNum x ∧ isSet k x.toUInt64 = true) → hI σ 69 11 = 0 → hI σ 69 0 = 20 → Q (some (vI (-104))) σ)
    (h4 : ((0 ≤ k ∧ k ≤ 13) ∧ isNum x ∧ isSet k x.toUInt64 = true) → hI σ 69 11 = 0 → hI σ 69 0 < 20 → Q (some (vI (hI σ 69 0))) (wI (wD (wI σ 70 (fup (hI σ 70) (hI σ 69 0) k)) 71 (fup (hD σ 71) (hI σ 69 0) x.toUInt64)) 69 (fup (hI σ 69) 0 (hI σ 69 0 + 1)))) : Sp mM_module [vR 69, vI k, vL x] σ Q := by
  obtain ⟨s1, s2, s3, s4⟩ := hs
  have e : fup (hI σ 69) 0 (hI σ 69 0 + 1) 0 - 1 = hI σ 69 0 := by rw [fup_s]; omega
  refine j_iload_n (p2 := 1) dM_module_0 rfl rfl ?_
  refine j_iconst (p2 := 2) dM_module_1 rfl ?_
  refine j_bipush (v := 13) (p2 := 4) dM_module_2 rfl rfl ?_
  refine j_callS (m' := mM_in) (As := [_, _, _]) (p2 := 7) dM_module_4 rfl ml_M_161 ok_mM_in sm_mM_in rfl rfl (Nat.le_of_ble_eq_true rfl) (Nat.le_of_ble_eq_true rfl) ⟨(Nat.le_of_ble_eq_true rfl), (Nat.le_of_ble_eq_true rfl)⟩ ?_
  refine cM_in hk (by constructor <;> omega) (by constructor <;> omega) ?_
  refine j_ifb_eq (p2 := 10) (tg := 28) dM_module_7 rfl (by decide) (fun h7 => ?_) (fun h7 => ?_)
  · refine j_bipush (v := (-102)) (p2 := 30) dM_module_28 rfl rfl ?_
    refine j_ireturn dM_module_30 rfl (by first | exact h1 (fun q => of_decide_eq_false h7 q.1) | exact h1 (fun q => of_decide_eq_false h14 q.2.1) | exact h1 (fun q => by rw [h25] at q; cases q.2.2))
  · refine j_lload_n (p2 := 11) dM_module_10 rfl rfl ?_
    refine j_callS (m' := mM_isNumber) (As := [_]) (p2 := 14) dM_module_11 rfl ml_M_181 ok_mM_isNumber sm_mM_isNumber rfl rfl (Nat.le_of_ble_eq_true rfl) (Nat.le_of_ble_eq_true rfl) ⟨(Nat.le_of_ble_eq_true rfl), (Nat.le_of_ble_eq_true rfl)⟩ ?_
    refine cM_isNumber ?_
    refine j_ifb_eq (p2 := 17) (tg := 28) dM_module_14 rfl (by decide) (fun h14 => ?_) (fun h14 => ?_)
    · refine j_bipush (v := (-102)) (p2 := 30) dM_module_28 rfl rfl ?_
      refine j_ireturn dM_module_30 rfl (by first | exact h1 (fun q => of_decide_eq_false h7 q.1) | exact h1 (fun q => of_decide_eq_false h14 q.2.1) | exact h1 (fun q => by rw [h25] at q; cases q.2.2))
    · refine j_iload_n (p2 := 18) dM_module_17 rfl rfl ?_
      refine j_lload_n (p2 := 19) dM_module_18 rfl rfl ?_
      refine j_ofBits (p2 := 22) dM_module_19 rfl ml_M_185 (Nat.le_of_ble_eq_true rfl) (Nat.le_of_ble_eq_true rfl) (by exact isNum_sn (dec_t h14)) ?_
      refine j_callS (m' := mM_isSetting) (As := [_, _]) (p2 := 25) dM_module_22 rfl ml_M_191 ok_mM_isSetting sm_mM_isSetting rfl rfl (Nat.le_of_ble_eq_true rfl) (Nat.le_of_ble_eq_true rfl) ⟨(Nat.le_of_ble_eq_true rfl), (Nat.le_of_ble_eq_true rfl)⟩ ?_
      refine cM_isSetting hk ?_
      refine j_ifb_ne (p2 := 28) (tg := 31) dM_module_25 rfl (by decide) (fun h25 => ?_) (fun h25 => ?_)
      · refine j_aload_n (p2 := 32) dM_module_31 rfl rfl ?_
        refine j_getIk (p2 := 35) dM_module_32 rfl fa_M_195 ly_69 rfl (ki := 11) rfl ?_
        refine j_if_eq (p2 := 38) (tg := 41) dM_module_35 rfl (by decide) (by constructor <;> omega) (fun h35 => ?_) (fun h35 => ?_)
        · refine j_aload_n (p2 := 42) dM_module_41 rfl rfl ?_
          refine j_getIk (p2 := 45) dM_module_42 rfl fa_M_158 ly_69 rfl (ki := 0) rfl ?_
          refine j_bipush (v := 20) (p2 := 47) dM_module_45 rfl rfl ?_
          refine j_icmp_ne (p2 := 50) (tg := 53) dM_module_47 rfl (by decide) (by constructor <;> omega) (by constructor <;> omega) (fun h47 => ?_) (fun h47 => ?_)
          · refine j_aload_n (p2 := 54) dM_module_53 rfl rfl ?_
            refine j_getR (p2 := 57) dM_module_54 rfl fa_M_7 ly_69 rfl ?_
            refine j_aload_n (p2 := 58) dM_module_57 rfl rfl ?_
            refine j_getIk (p2 := 61) dM_module_58 rfl fa_M_158 ly_69 rfl (ki := 0) rfl ?_
            refine j_iload_n (p2 := 62) dM_module_61 rfl rfl ?_
            refine j_iastk (p2 := 63) dM_module_62 rfl ly_70 (by decide) (by omega) (by omega) ?_
            refine j_aload_n (p2 := 64) dM_module_63 rfl rfl ?_
            refine j_getR (p2 := 67) dM_module_64 rfl fa_M_13 ly_69 rfl ?_
            refine j_aload_n (p2 := 68) dM_module_67 rfl rfl ?_
            refine j_getIk (p2 := 71) dM_module_68 rfl fa_M_158 ly_69 rfl (ki := 0) rfl ?_
            refine j_lload_n (p2 := 72) dM_module_71 rfl rfl ?_
            refine j_ofBits (p2 := 75) dM_module_72 rfl ml_M_185 (Nat.le_of_ble_eq_true rfl) (Nat.le_of_ble_eq_true rfl) (by exact isNum_sn (dec_t h14)) ?_
            refine j_dastk (p2 := 76) dM_module_75 rfl ly_71 (by decide) (show 0 ≤ hI σ 69 0 by omega) (show hI σ 69 0 < 20 by omega) ?_
            refine j_aload_n (p2 := 77) dM_module_76 rfl rfl ?_
            refine j_dup (p2 := 78) dM_module_77 rfl rfl ?_
            refine j_getIk (p2 := 81) dM_module_78 rfl fa_M_158 ly_69 rfl (ki := 0) rfl ?_
            refine j_iconst (p2 := 82) dM_module_81 rfl ?_
            refine j_iadd (p2 := 83) dM_module_82 rfl ?_
            refine j_putIk (p2 := 86) dM_module_83 rfl fw_M_158 ly_69 rfl (ki := 0) rfl ?_
            refine j_aload_n (p2 := 87) dM_module_86 rfl rfl ?_
            refine j_getIk (p2 := 90) dM_module_87 rfl fa_M_158 ly_69 rfl (ki := 0) rfl ?_
            refine j_iconst (p2 := 91) dM_module_90 rfl ?_
            refine j_isub (p2 := 92) dM_module_91 rfl ?_
            refine j_ireturn dM_module_92 rfl (by exact Q_of (h4 ⟨dec_t h7, dec_t h14, h25⟩ h35 (by omega)) (congrArg (fun z => some (vI z)) e.symm) rfl)
          · refine j_bipush (v := (-104)) (p2 := 52) dM_module_50 rfl rfl ?_
            refine j_ireturn dM_module_52 rfl (by exact h3 ⟨dec_t h7, dec_t h14, h25⟩ h35 h47)
        · refine j_bipush (v := (-103)) (p2 := 40) dM_module_38 rfl rfl ?_
          refine j_ireturn dM_module_40 rfl (by exact h2 ⟨dec_t h7, dec_t h14, h25⟩ h35)
      · refine j_bipush (v := (-102)) (p2 := 30) dM_module_28 rfl rfl ?_
        refine j_ireturn dM_module_30 rfl (by first | exact h1 (fun q => of_decide_eq_false h7 q.1) | exact h1 (fun q => of_decide_eq_false h14 q.2.1) | exact h1 (fun q => by rw [h25] at q; cases q.2.2))
theorem cM_cord {m i o : Int} {b : Bool} (hs : Sc σ) (hm : inR m) (hi : inR i) (ho : inR o) (h1 : ¬ (isM σ m ∧ (o = -1 ∨ isM σ o)) → Q (some (vI (-101))) σ) (h2 : (isM σ m ∧ (o = -1 ∨ isM σ o)) → ¬ (0 ≤ i ∧ i ≤ 5) → Q (some (vI (-102))) σ) (h3 : (isM σ m ∧ (o = -1 ∨ isM σ o)) → (0 ≤ i ∧ i ≤ 5) → ¬ hI σ 69 11 = 0 → Q (some (vI (-103))) σ)
    (h4 : (isM σ m ∧ (o = -1 ∨ isM σ o)) → (0 ≤ i ∧ i ≤ 5) → hI σ 69 11 = 0 → Q (some (vI 1)) (wI (wI σ 72 (fup (hI σ 72) (6 * m + i) o)) 73 (fup (hI σ 73) (6 * m + i) (bI (b && decide (¬ o = -1)))))) : Sp mM_cord [vR 69, vI m, vI i, vI o, vI (bI b)] σ Q := by
  obtain ⟨s1, s2, s3, s4⟩ := hs
  have at24 : (isM σ m ∧ (o = -1 ∨ isM σ o)) → J mM_cord 24 [(0, vR 69), (1, vI m), (2, vI i), (3, vI o), (4, vI (bI b))] [] σ Q := by
    intro hg
    have hg1 := hg.1
    have fin : (0 ≤ i ∧ i ≤ 5) → hI σ 69 11 = 0 → ∀ x : Int, bI (b && decide (¬ o = -1)) = x → Q (some (vI 1)) (wI (wI σ 72 (fup (hI σ 72) (6 * m + i) o)) 73 (fup (hI σ 73) (6 * m + i) x)) := fun a c x hx => by
      rw [← hx]; exact h4 hg a c
    refine j_iload_n (p2 := 25) dM_cord_24 rfl rfl ?_
    refine j_iconst (p2 := 26) dM_cord_25 rfl ?_
    refine j_iconst (p2 := 27) dM_cord_26 rfl ?_
    refine j_callS (m' := mM_in) (As := [_, _, _]) (p2 := 30) dM_cord_27 rfl ml_M_161 ok_mM_in sm_mM_in rfl rfl (Nat.le_of_ble_eq_true rfl) (Nat.le_of_ble_eq_true rfl) ⟨(Nat.le_of_ble_eq_true rfl), (Nat.le_of_ble_eq_true rfl)⟩ ?_
    refine cM_in hi (by constructor <;> omega) (by constructor <;> omega) ?_
    refine j_ifb_ne (p2 := 33) (tg := 36) dM_cord_30 rfl (by decide) (fun h30 => ?_) (fun h30 => ?_)
    · refine j_aload_n (p2 := 37) dM_cord_36 rfl rfl ?_
      refine j_getIk (p2 := 40) dM_cord_37 rfl fa_M_195 ly_69 rfl (ki := 11) rfl ?_
      refine j_if_eq (p2 := 43) (tg := 46) dM_cord_40 rfl (by decide) (by constructor <;> omega) (fun h40 => ?_) (fun h40 => ?_)
      · refine j_aload_n (p2 := 47) dM_cord_46 rfl rfl ?_
        refine j_getR (p2 := 50) dM_cord_47 rfl fa_M_17 ly_69 rfl ?_
        refine j_bipush (v := 6) (p2 := 52) dM_cord_50 rfl rfl ?_
        refine j_iload_n (p2 := 53) dM_cord_52 rfl rfl ?_
        refine j_imul (p2 := 54) dM_cord_53 rfl ?_
        refine j_iload_n (p2 := 55) dM_cord_54 rfl rfl ?_
        refine j_iadd (p2 := 56) dM_cord_55 rfl ?_
        refine j_iload_n (p2 := 57) dM_cord_56 rfl rfl ?_
        refine j_iastk (p2 := 58) dM_cord_57 rfl ly_72 (by decide) (by have := dec_t h30; omega) (by have := dec_t h30; omega) ?_
        refine j_aload_n (p2 := 59) dM_cord_58 rfl rfl ?_
        refine j_getR (p2 := 62) dM_cord_59 rfl fa_M_20 ly_69 rfl ?_
        refine j_bipush (v := 6) (p2 := 64) dM_cord_62 rfl rfl ?_
        refine j_iload_n (p2 := 65) dM_cord_64 rfl rfl ?_
        refine j_imul (p2 := 66) dM_cord_65 rfl ?_
        refine j_iload_n (p2 := 67) dM_cord_66 rfl rfl ?_
        refine j_iadd (p2 := 68) dM_cord_67 rfl ?_
        refine j_iload (p2 := 70) dM_cord_68 rfl rfl ?_
        refine j_ifb_eq (p2 := 73) (tg := 82) dM_cord_70 rfl (by decide) (fun h70 => ?_) (fun h70 => ?_)
        · refine j_iconst (p2 := 83) dM_cord_82 rfl ?_
          refine j_zastk (p2 := 84) dM_cord_83 rfl ly_73 (by decide) (by have := dec_t h30; omega) (by have := dec_t h30; omega) (by first | exact Or.inl rfl | exact Or.inr rfl) ?_
          refine j_iconst (p2 := 85) dM_cord_84 rfl ?_
          refine j_ireturn dM_cord_85 rfl (by first | exact fin (dec_t h30) h40 _ (by rw [h70]; rfl) | exact fin (dec_t h30) h40 _ (by rw [h70, decide_eq_true h75]; rfl) | exact fin (dec_t h30) h40 _ (by rw [h70, decide_eq_false (fun q => q h75)]; rfl))
        · refine j_iload_n (p2 := 74) dM_cord_73 rfl rfl ?_
          refine j_iconst (p2 := 75) dM_cord_74 rfl ?_
          refine j_icmp_eq (p2 := 78) (tg := 82) dM_cord_75 rfl (by decide) (by constructor <;> omega) (by constructor <;> omega) (fun h75 => ?_) (fun h75 => ?_)
          · refine j_iconst (p2 := 83) dM_cord_82 rfl ?_
            refine j_zastk (p2 := 84) dM_cord_83 rfl ly_73 (by decide) (by have := dec_t h30; omega) (by have := dec_t h30; omega) (by first | exact Or.inl rfl | exact Or.inr rfl) ?_
            refine j_iconst (p2 := 85) dM_cord_84 rfl ?_
            refine j_ireturn dM_cord_85 rfl (by first | exact fin (dec_t h30) h40 _ (by rw [h70]; rfl) | exact fin (dec_t h30) h40 _ (by rw [h70, decide_eq_true h75]; rfl) | exact fin (dec_t h30) h40 _ (by rw [h70, decide_eq_false (fun q => q h75)]; rfl))
          · refine j_iconst (p2 := 79) dM_cord_78 rfl ?_
            refine j_goto (p2 := 83) dM_cord_79 (by decide) ?_
            refine j_zastk (p2 := 84) dM_cord_83 rfl ly_73 (by decide) (by have := dec_t h30; omega) (by have := dec_t h30; omega) (by first | exact Or.inl rfl | exact Or.inr rfl) ?_
            refine j_iconst (p2 := 85) dM_cord_84 rfl ?_
            refine j_ireturn dM_cord_85 rfl (by first | exact fin (dec_t h30) h40 _ (by rw [h70]; rfl) | exact fin (dec_t h30) h40 _ (by rw [h70, decide_eq_true h75]; rfl) | exact fin (dec_t h30) h40 _ (by rw [h70, decide_eq_false (fun q => q h75)]; rfl))
      · refine j_bipush (v := (-103)) (p2 := 45) dM_cord_43 rfl rfl ?_
        refine j_ireturn dM_cord_45 rfl (by exact h3 hg (dec_t h30) h40)
    · refine j_bipush (v := (-102)) (p2 := 35) dM_cord_33 rfl rfl ?_
      refine j_ireturn dM_cord_35 rfl (by exact h2 hg (of_decide_eq_false h30))
  refine j_aload_n (p2 := 1) dM_cord_0 rfl rfl ?_
  refine j_iload_n (p2 := 2) dM_cord_1 rfl rfl ?_
  refine j_callV (m' := mM_isModule) (As := [_]) (p2 := 5) dM_cord_2 rfl ml_M_198 ok_mM_isModule im_mM_isModule se_mM_isModule rfl rfl (Nat.le_of_ble_eq_true rfl) ly_69 rfl (Nat.le_of_ble_eq_true rfl) ⟨(Nat.le_of_ble_eq_true rfl), (Nat.le_of_ble_eq_true rfl)⟩ ?_
  refine cM_isModule hm s1 ?_
  refine j_ifb_eq (p2 := 8) (tg := 21) dM_cord_5 rfl (by decide) (fun h5 => ?_) (fun h5 => ?_)
  · refine j_bipush (v := (-101)) (p2 := 23) dM_cord_21 rfl rfl ?_
    refine j_ireturn dM_cord_23 rfl (by first | exact h1 (fun q => of_decide_eq_false h5 q.1) | exact h1 (fun q => q.2.elim h10 (of_decide_eq_false h18)))
  · refine j_iload_n (p2 := 9) dM_cord_8 rfl rfl ?_
    refine j_iconst (p2 := 10) dM_cord_9 rfl ?_
    refine j_icmp_eq (p2 := 13) (tg := 24) dM_cord_10 rfl (by decide) (by constructor <;> omega) (by constructor <;> omega) (fun h10 => ?_) (fun h10 => ?_)
    · refine J.loc (lv' := [(0, _), (1, _), (2, _), (3, _), (4, _)]) ⟨rfl, rfl, rfl, rfl, rfl, trivial⟩ ?_
      first
        | exact at24 ⟨dec_t h5, Or.inl h10⟩
        | exact at24 ⟨dec_t h5, Or.inr (dec_t h18)⟩
    · refine j_aload_n (p2 := 14) dM_cord_13 rfl rfl ?_
      refine j_iload_n (p2 := 15) dM_cord_14 rfl rfl ?_
      refine j_callV (m' := mM_isModule) (As := [_]) (p2 := 18) dM_cord_15 rfl ml_M_198 ok_mM_isModule im_mM_isModule se_mM_isModule rfl rfl (Nat.le_of_ble_eq_true rfl) ly_69 rfl (Nat.le_of_ble_eq_true rfl) ⟨(Nat.le_of_ble_eq_true rfl), (Nat.le_of_ble_eq_true rfl)⟩ ?_
      refine cM_isModule ho s1 ?_
      refine j_ifb_ne (p2 := 21) (tg := 24) dM_cord_18 rfl (by decide) (fun h18 => ?_) (fun h18 => ?_)
      · refine J.loc (lv' := [(0, _), (1, _), (2, _), (3, _), (4, _)]) ⟨rfl, rfl, rfl, rfl, rfl, trivial⟩ ?_
        first
          | exact at24 ⟨dec_t h5, Or.inl h10⟩
          | exact at24 ⟨dec_t h5, Or.inr (dec_t h18)⟩
      · refine j_bipush (v := (-101)) (p2 := 23) dM_cord_21 rfl rfl ?_
        refine j_ireturn dM_cord_23 rfl (by first | exact h1 (fun q => of_decide_eq_false h5 q.1) | exact h1 (fun q => q.2.elim h10 (of_decide_eq_false h18)))
end REF25
