/-! ===== the reference: patching ===== -/
theorem isNum_iff {x : Int64} : isNum x ↔ x.toUInt64.toNat % 2 ^ 63 ≤ 9218868437227405312 := by
  obtain ⟨n, hn, e⟩ := wb_of x
  subst e
  unfold isNum
  have e1 : lN n &&& (9223372036854775807 : Int64) = lN (n % 2 ^ 63) := g_mask (p := 2 ^ 63) rfl (by decide) hn
  have e2 : (9218868437227405312 : Int64) = lN 9218868437227405312 := by decide +kernel
  have e3 : (lN n).toUInt64.toNat = n := by
    show (lN n).toBitVec.toNat = n
    exact wb_tn hn
  rw [e1, e2, lN_le63 (by omega) (by decide), e3]
theorem isNum_nn {x : Int64} (h : isNum x) : vf_n64 x.toUInt64 := vn64.mpr (isNum_iff.mp h)
theorem isNum_sn {x : Int64} (h : isNum x) : vn_snl2d x = false := by
  unfold vn_snl2d
  rw [Bool.and_eq_false_iff]
  left
  rw [decide_eq_false_iff_not]
  show ¬ (0x7ff0000000000000 : UInt64) < _
  rw [UInt64.lt_iff_toNat_lt, FP.Core.mask_toNat]
  have := isNum_iff.mp h
  show ¬ 9218868437227405312 < _
  omega
/-- small: a number from -1.5 to 1.5 -/
def isSml (x : Int64) : Bool := decide (isNum x) && decide (dwi x.toUInt64 13832806255468478464 4609434218613702656)
section REF24
variable {σ : Hp} {Q : Option PV → Hp → Prop} {N : Nat}
theorem cM_isSmall {x : Int64} (hQ : Q (some (vI (bI (isSml x)))) σ) : Sp mM_isSmall [vL x] σ Q := by
  unfold isSml at hQ
  refine j_lload_n (p2 := 1) dM_isSmall_0 rfl rfl ?_
  refine j_callS (m' := mM_isNumber) (As := [_]) (p2 := 4) dM_isSmall_1 rfl ml_M_181 ok_mM_isNumber sm_mM_isNumber rfl rfl (Nat.le_of_ble_eq_true rfl) (Nat.le_of_ble_eq_true rfl) ⟨(Nat.le_of_ble_eq_true rfl), (Nat.le_of_ble_eq_true rfl)⟩ ?_
  refine cM_isNumber ?_
  refine j_ifb_eq (p2 := 7) (tg := 27) dM_isSmall_4 rfl (by decide) (fun h4 => ?_) (fun h4 => ?_)
  · refine j_iconst (p2 := 28) dM_isSmall_27 rfl ?_
    refine j_zreturn dM_isSmall_28 rfl (by first | exact Or.inl rfl | exact Or.inr rfl | exact bI_or _ | omega) (by rw [h4] at hQ; first | exact hQ | (rw [h20] at hQ; exact hQ))
  · refine j_lload_n (p2 := 8) dM_isSmall_7 rfl rfl ?_
    refine j_ofBits (p2 := 11) dM_isSmall_8 rfl ml_M_185 (Nat.le_of_ble_eq_true rfl) (Nat.le_of_ble_eq_true rfl) (by exact isNum_sn (dec_t h4)) ?_
    refine j_ldc2d (p2 := 14) dM_isSmall_11 rfl cw_M_202 ?_
    refine j_ldc2d (p2 := 17) dM_isSmall_14 rfl cw_M_177 ?_
    refine j_callS (m' := mM_isWithin) (As := [_, _, _]) (p2 := 20) dM_isSmall_17 rfl ml_M_171 ok_mM_isWithin sm_mM_isWithin rfl rfl (Nat.le_of_ble_eq_true rfl) (Nat.le_of_ble_eq_true rfl) ⟨(Nat.le_of_ble_eq_true rfl), (Nat.le_of_ble_eq_true rfl)⟩ ?_
    refine cM_isWithin ?_
    refine j_ifb_eq (p2 := 23) (tg := 27) dM_isSmall_20 rfl (by decide) (fun h20 => ?_) (fun h20 => ?_)
    · refine j_iconst (p2 := 28) dM_isSmall_27 rfl ?_
      refine j_zreturn dM_isSmall_28 rfl (by first | exact Or.inl rfl | exact Or.inr rfl | exact bI_or _ | omega) (by rw [h4] at hQ; first | exact hQ | (rw [h20] at hQ; exact hQ))
    · refine j_iconst (p2 := 24) dM_isSmall_23 rfl ?_
      refine j_goto (p2 := 28) dM_isSmall_24 (by decide) ?_
      refine j_zreturn dM_isSmall_28 rfl (by first | exact Or.inl rfl | exact Or.inr rfl | exact bI_or _ | omega) (by rw [h4] at hQ; first | exact hQ | (rw [h20] at hQ; exact hQ))
theorem cM_begin {m : Int} {x : Int64} (hs : Sc σ) (hm : inR m) (hk : isM σ m → inR (hI σ 70 m)) (h1 : ¬ isM σ m → Q (some (vI (-101))) σ) (h2 : isM σ m → ¬ (isSml x = true ∧ rem (hI σ 70 m)) → Q (some (vI (-102))) σ) (h3 : isM σ m → (isSml x = true ∧ rem (hI σ 70 m)) → ¬ hI σ 69 11 = 0 → Q (some (vI (-103))) σ)
    (h4 : isM σ m → (isSml x = true ∧ rem (hI σ 70 m)) → hI σ 69 11 = 0 → Q (some (vI 1)) (wD σ 74 (fup (hD σ 74) m x.toUInt64))) : Sp mM_begin [vR 69, vI m, vL x] σ Q := by
  obtain ⟨s1, s2, s3, s4⟩ := hs
  have sn : isSml x = true → vn_snl2d x = false := fun h => by
    unfold isSml at h
    rw [Bool.and_eq_true] at h
    exact isNum_sn (of_decide_eq_true h.1)
  refine j_aload_n (p2 := 1) dM_begin_0 rfl rfl ?_
  refine j_iload_n (p2 := 2) dM_begin_1 rfl rfl ?_
  refine j_callV (m' := mM_isModule) (As := [_]) (p2 := 5) dM_begin_2 rfl ml_M_198 ok_mM_isModule im_mM_isModule se_mM_isModule rfl rfl (Nat.le_of_ble_eq_true rfl) ly_69 rfl (Nat.le_of_ble_eq_true rfl) ⟨(Nat.le_of_ble_eq_true rfl), (Nat.le_of_ble_eq_true rfl)⟩ ?_
  refine cM_isModule hm s1 ?_
  refine j_ifb_ne (p2 := 8) (tg := 11) dM_begin_5 rfl (by decide) (fun h5 => ?_) (fun h5 => ?_)
  · refine j_lload_n (p2 := 12) dM_begin_11 rfl rfl ?_
    refine j_callS (m' := mM_isSmall) (As := [_]) (p2 := 15) dM_begin_12 rfl ml_M_204 ok_mM_isSmall sm_mM_isSmall rfl rfl (Nat.le_of_ble_eq_true rfl) (Nat.le_of_ble_eq_true rfl) ⟨(Nat.le_of_ble_eq_true rfl), (Nat.le_of_ble_eq_true rfl)⟩ ?_
    refine cM_isSmall ?_
    refine j_ifb_eq (p2 := 18) (tg := 30) dM_begin_15 rfl (by decide) (fun h15 => ?_) (fun h15 => ?_)
    · refine j_bipush (v := (-102)) (p2 := 32) dM_begin_30 rfl rfl ?_
      refine j_ireturn dM_begin_32 rfl (by first | exact h2 (dec_t h5) (fun q => of_decide_eq_false h27 q.2) | exact h2 (dec_t h5) (fun q => by rw [h15] at q; cases q.1))
    · refine j_aload_n (p2 := 19) dM_begin_18 rfl rfl ?_
      refine j_getR (p2 := 22) dM_begin_19 rfl fa_M_7 ly_69 rfl ?_
      refine j_iload_n (p2 := 23) dM_begin_22 rfl rfl ?_
      refine j_iald (p2 := 24) dM_begin_23 rfl ly_70 (by decide) (by have := dec_t h5; omega) (by have := dec_t h5; omega) ?_
      refine j_callS (m' := mM_remembers) (As := [_]) (p2 := 27) dM_begin_24 rfl ml_M_207 ok_mM_remembers sm_mM_remembers rfl rfl (Nat.le_of_ble_eq_true rfl) (Nat.le_of_ble_eq_true rfl) ⟨(Nat.le_of_ble_eq_true rfl), (Nat.le_of_ble_eq_true rfl)⟩ ?_
      refine cM_remembers (hk (dec_t h5)) ?_
      refine j_ifb_ne (p2 := 30) (tg := 33) dM_begin_27 rfl (by decide) (fun h27 => ?_) (fun h27 => ?_)
      · refine j_aload_n (p2 := 34) dM_begin_33 rfl rfl ?_
        refine j_getIk (p2 := 37) dM_begin_34 rfl fa_M_195 ly_69 rfl (ki := 11) rfl ?_
        refine j_if_eq (p2 := 40) (tg := 43) dM_begin_37 rfl (by decide) (by constructor <;> omega) (fun h37 => ?_) (fun h37 => ?_)
        · refine j_aload_n (p2 := 44) dM_begin_43 rfl rfl ?_
          refine j_getR (p2 := 47) dM_begin_44 rfl fa_M_24 ly_69 rfl ?_
          refine j_iload_n (p2 := 48) dM_begin_47 rfl rfl ?_
          refine j_lload_n (p2 := 49) dM_begin_48 rfl rfl ?_
          refine j_ofBits (p2 := 52) dM_begin_49 rfl ml_M_185 (Nat.le_of_ble_eq_true rfl) (Nat.le_of_ble_eq_true rfl) (sn h15) ?_
          refine j_dastk (p2 := 53) dM_begin_52 rfl ly_74 (by decide) (by have := dec_t h5; omega) (by have := dec_t h5; omega) ?_
          refine j_iconst (p2 := 54) dM_begin_53 rfl ?_
          refine j_ireturn dM_begin_54 rfl (by exact h4 (dec_t h5) ⟨h15, dec_t h27⟩ h37)
        · refine j_bipush (v := (-103)) (p2 := 42) dM_begin_40 rfl rfl ?_
          refine j_ireturn dM_begin_42 rfl (by exact h3 (dec_t h5) ⟨h15, dec_t h27⟩ h37)
      · refine j_bipush (v := (-102)) (p2 := 32) dM_begin_30 rfl rfl ?_
        refine j_ireturn dM_begin_32 rfl (by first | exact h2 (dec_t h5) (fun q => of_decide_eq_false h27 q.2) | exact h2 (dec_t h5) (fun q => by rw [h15] at q; cases q.1))
  · refine j_bipush (v := (-101)) (p2 := 10) dM_begin_8 rfl rfl ?_
    refine j_ireturn dM_begin_10 rfl (by exact h1 (of_decide_eq_false h5))
theorem cM_setting {m : Int} {x : Int64} (hs : Sc σ) (hm : inR m) (hk : isM σ m → inR (hI σ 70 m)) (h1 : ¬ isM σ m → Q (some (vI (-101))) σ) (h2 : isM σ m → ¬ (isNum x ∧ isSet (hI σ 70 m) x.toUInt64 = true) → Q (some (vI (-102))) σ) (h3 : isM σ m → (isNum x ∧ isSet (hI σ 70 m) x.toUInt64 = true) → ¬ hI σ 69 11 = 0 → Q (some (vI (-103))) σ)
    (h4 : isM σ m → (isNum x ∧ isSet (hI σ 70 m) x.toUInt64 = true) → hI σ 69 11 = 0 → Q (some (vI 1)) (wD σ 71 (fup (hD σ 71) m x.toUInt64))) : Sp mM_setting [vR 69, vI m, vL x] σ Q := by
  obtain ⟨s1, s2, s3, s4⟩ := hs
  refine j_aload_n (p2 := 1) dM_setting_0 rfl rfl ?_
  refine j_iload_n (p2 := 2) dM_setting_1 rfl rfl ?_
  refine j_callV (m' := mM_isModule) (As := [_]) (p2 := 5) dM_setting_2 rfl ml_M_198 ok_mM_isModule im_mM_isModule se_mM_isModule rfl rfl (Nat.le_of_ble_eq_true rfl) ly_69 rfl (Nat.le_of_ble_eq_true rfl) ⟨(Nat.le_of_ble_eq_true rfl), (Nat.le_of_ble_eq_true rfl)⟩ ?_
  refine cM_isModule hm s1 ?_
  refine j_ifb_ne (p2 := 8) (tg := 11) dM_setting_5 rfl (by decide) (fun h5 => ?_) (fun h5 => ?_)
  · refine j_lload_n (p2 := 12) dM_setting_11 rfl rfl ?_
    refine j_callS (m' := mM_isNumber) (As := [_]) (p2 := 15) dM_setting_12 rfl ml_M_181 ok_mM_isNumber sm_mM_isNumber rfl rfl (Nat.le_of_ble_eq_true rfl) (Nat.le_of_ble_eq_true rfl) ⟨(Nat.le_of_ble_eq_true rfl), (Nat.le_of_ble_eq_true rfl)⟩ ?_
    refine cM_isNumber ?_
    refine j_ifb_eq (p2 := 18) (tg := 34) dM_setting_15 rfl (by decide) (fun h15 => ?_) (fun h15 => ?_)
    · refine j_bipush (v := (-102)) (p2 := 36) dM_setting_34 rfl rfl ?_
      refine j_ireturn dM_setting_36 rfl (by first | exact h2 (dec_t h5) (fun q => of_decide_eq_false h15 q.1) | exact h2 (dec_t h5) (fun q => by rw [h31] at q; cases q.2))
    · refine j_aload_n (p2 := 19) dM_setting_18 rfl rfl ?_
      refine j_getR (p2 := 22) dM_setting_19 rfl fa_M_7 ly_69 rfl ?_
      refine j_iload_n (p2 := 23) dM_setting_22 rfl rfl ?_
      refine j_iald (p2 := 24) dM_setting_23 rfl ly_70 (by decide) (by have := dec_t h5; omega) (by have := dec_t h5; omega) ?_
      refine j_lload_n (p2 := 25) dM_setting_24 rfl rfl ?_
      refine j_ofBits (p2 := 28) dM_setting_25 rfl ml_M_185 (Nat.le_of_ble_eq_true rfl) (Nat.le_of_ble_eq_true rfl) (by exact isNum_sn (dec_t h15)) ?_
      refine j_callS (m' := mM_isSetting) (As := [_, _]) (p2 := 31) dM_setting_28 rfl ml_M_191 ok_mM_isSetting sm_mM_isSetting rfl rfl (Nat.le_of_ble_eq_true rfl) (Nat.le_of_ble_eq_true rfl) ⟨(Nat.le_of_ble_eq_true rfl), (Nat.le_of_ble_eq_true rfl)⟩ ?_
      refine cM_isSetting (hk (dec_t h5)) ?_
      refine j_ifb_ne (p2 := 34) (tg := 37) dM_setting_31 rfl (by decide) (fun h31 => ?_) (fun h31 => ?_)
      · refine j_aload_n (p2 := 38) dM_setting_37 rfl rfl ?_
        refine j_getIk (p2 := 41) dM_setting_38 rfl fa_M_195 ly_69 rfl (ki := 11) rfl ?_
        refine j_if_eq (p2 := 44) (tg := 47) dM_setting_41 rfl (by decide) (by constructor <;> omega) (fun h41 => ?_) (fun h41 => ?_)
        · refine j_aload_n (p2 := 48) dM_setting_47 rfl rfl ?_
          refine j_getR (p2 := 51) dM_setting_48 rfl fa_M_13 ly_69 rfl ?_
          refine j_iload_n (p2 := 52) dM_setting_51 rfl rfl ?_
          refine j_lload_n (p2 := 53) dM_setting_52 rfl rfl ?_
          refine j_ofBits (p2 := 56) dM_setting_53 rfl ml_M_185 (Nat.le_of_ble_eq_true rfl) (Nat.le_of_ble_eq_true rfl) (by exact isNum_sn (dec_t h15)) ?_
          refine j_dastk (p2 := 57) dM_setting_56 rfl ly_71 (by decide) (by have := dec_t h5; omega) (by have := dec_t h5; omega) ?_
          refine j_iconst (p2 := 58) dM_setting_57 rfl ?_
          refine j_ireturn dM_setting_58 rfl (by exact h4 (dec_t h5) ⟨dec_t h15, h31⟩ h41)
        · refine j_bipush (v := (-103)) (p2 := 46) dM_setting_44 rfl rfl ?_
          refine j_ireturn dM_setting_46 rfl (by exact h3 (dec_t h5) ⟨dec_t h15, h31⟩ h41)
      · refine j_bipush (v := (-102)) (p2 := 36) dM_setting_34 rfl rfl ?_
        refine j_ireturn dM_setting_36 rfl (by first | exact h2 (dec_t h5) (fun q => of_decide_eq_false h15 q.1) | exact h2 (dec_t h5) (fun q => by rw [h31] at q; cases q.2))
  · refine j_bipush (v := (-101)) (p2 := 10) dM_setting_8 rfl rfl ?_
    refine j_ireturn dM_setting_10 rfl (by exact h1 (of_decide_eq_false h5))
theorem cM_mix {v : Int64} (hQ : Q none (wL σ 69 (fup (hL σ 69) 60 (31 * hL σ 69 60 + v)))) : Sp mM_mix [vR 69, vL v] σ Q := by
  refine j_aload_n (p2 := 1) dM_mix_0 rfl rfl ?_
  refine j_ldc2 (p2 := 4) dM_mix_1 rfl cw_M_381 ?_
  refine j_aload_n (p2 := 5) dM_mix_4 rfl rfl ?_
  refine j_getLk (p2 := 8) dM_mix_5 rfl fa_M_383 ly_69 rfl (ki := 60) rfl ?_
  refine j_lmul (p2 := 9) dM_mix_8 rfl ?_
  refine j_lload_n (p2 := 10) dM_mix_9 rfl rfl ?_
  refine j_ladd (p2 := 11) dM_mix_10 rfl ?_
  refine j_putLk (p2 := 14) dM_mix_11 rfl fw_M_383 ly_69 rfl (ki := 60) rfl ?_
  refine j_return dM_mix_14 rfl (by exact hQ)
end REF24
