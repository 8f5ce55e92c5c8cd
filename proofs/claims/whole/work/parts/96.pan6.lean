/-! ===== the panel: what is told ===== -/
abbrev cM (σ : Hp) (m : Int) : Prop := 0 ≤ m ∧ m < hI σ 3 0
abbrev cSt (σ : Hp) (s : Int) : Prop := 0 ≤ s ∧ s < hI σ 47 0
abbrev SzC (σ : Hp) : Prop := (0 ≤ hI σ 3 0 ∧ hI σ 3 0 ≤ 20) ∧ inR (hI σ 0 9) ∧ (0 ≤ hI σ 47 0 ∧ hI σ 47 0 ≤ 6)
section PAN6
variable {σ : Hp} {Q : Option PV → Hp → Prop} {N : Nat}
theorem cX_broken (hQ : Q (some (vI (hI σ 0 11))) σ) : Sp mX_broken [vR 0] σ Q := by
  refine j_aload_n (p2 := 1) dX_broken_0 rfl rfl ?_
  refine j_getIk (p2 := 4) dX_broken_1 rfl fa_X_138 ly_0 rfl (ki := 11) rfl ?_
  refine j_ireturn dX_broken_4 rfl (by exact hQ)
theorem cX_now (hQ : Q (some (vI (hI σ 0 9))) σ) : Sp mX_now [vR 0] σ Q := by
  refine j_aload_n (p2 := 1) dX_now_0 rfl rfl ?_
  refine j_getIk (p2 := 4) dX_now_1 rfl fa_X_68 ly_0 rfl (ki := 9) rfl ?_
  refine j_ireturn dX_now_4 rfl (by exact hQ)
theorem cX_time (hQ : Q (some (vI (hI σ 0 10))) σ) : Sp mX_time [vR 0] σ Q := by
  refine j_aload_n (p2 := 1) dX_time_0 rfl rfl ?_
  refine j_getIk (p2 := 4) dX_time_1 rfl fa_X_164 ly_0 rfl (ki := 10) rfl ?_
  refine j_ireturn dX_time_4 rfl (by exact hQ)
theorem cX_fail {m t : Int} (hz : SzC σ) (hm : inR m) (ht : inR t) (h1 : ¬ cM σ m → Q (some (vI (-101))) σ) (h2 : cM σ m → ¬ (0 ≤ t ∧ t ≤ 300) → Q (some (vI (-102))) σ) (h3 : cM σ m → (0 ≤ t ∧ t ≤ 300) → Q (some (vI 1)) (wI σ 14 (fup (hI σ 14) m t))) : Sp mX_fail [vR 0, vI m, vI t] σ Q := by
  obtain ⟨z1, z2, z3⟩ := hz
  refine j_aload_n (p2 := 1) dX_fail_0 rfl rfl ?_
  refine j_getR (p2 := 4) dX_fail_1 rfl fa_X_10 ly_0 rfl ?_
  refine j_iload_n (p2 := 5) dX_fail_4 rfl rfl ?_
  refine j_callV (m' := mP_has) (As := [_]) (p2 := 8) dX_fail_5 rfl ml_X_89 ok_mP_has im_mP_has se_mP_has rfl rfl (Nat.le_of_ble_eq_true rfl) ly_3 rfl (Nat.le_of_ble_eq_true rfl) ⟨(Nat.le_of_ble_eq_true rfl), (Nat.le_of_ble_eq_true rfl)⟩ ?_
  refine cP_has hm z1 ?_
  refine j_ifb_ne (p2 := 11) (tg := 14) dX_fail_8 rfl (by decide) (fun h8 => ?_) (fun h8 => ?_)
  · refine j_iload_n (p2 := 15) dX_fail_14 rfl rfl ?_
    refine j_if_lt (p2 := 18) (tg := 25) dX_fail_15 rfl (by decide) (by constructor <;> omega) (fun h15 => ?_) (fun h15 => ?_)
    · refine j_bipush (v := (-102)) (p2 := 27) dX_fail_25 rfl rfl ?_
      refine j_ireturn dX_fail_27 rfl (by first | exact h1 (of_decide_eq_false h8) | exact h2 (dec_t h8) (by omega) | exact h3 (dec_t h8) (by omega))
    · refine j_iload_n (p2 := 19) dX_fail_18 rfl rfl ?_
      refine j_sipush (v := 300) (p2 := 22) dX_fail_19 rfl rfl ?_
      refine j_icmp_le (p2 := 25) (tg := 28) dX_fail_22 rfl (by decide) (by constructor <;> omega) (by constructor <;> omega) (fun h22 => ?_) (fun h22 => ?_)
      · refine j_aload_n (p2 := 29) dX_fail_28 rfl rfl ?_
        refine j_getR (p2 := 32) dX_fail_29 rfl fa_X_10 ly_0 rfl ?_
        refine j_getR (p2 := 35) dX_fail_32 rfl fa_X_176 ly_3 rfl ?_
        refine j_iload_n (p2 := 36) dX_fail_35 rfl rfl ?_
        refine j_iload_n (p2 := 37) dX_fail_36 rfl rfl ?_
        refine j_iastk (p2 := 38) dX_fail_37 rfl ly_14 (by decide) (by have := dec_t h8; omega) (by have := dec_t h8; omega) ?_
        refine j_iconst (p2 := 39) dX_fail_38 rfl ?_
        refine j_ireturn dX_fail_39 rfl (by first | exact h1 (of_decide_eq_false h8) | exact h2 (dec_t h8) (by omega) | exact h3 (dec_t h8) (by omega))
      · refine j_bipush (v := (-102)) (p2 := 27) dX_fail_25 rfl rfl ?_
        refine j_ireturn dX_fail_27 rfl (by first | exact h1 (of_decide_eq_false h8) | exact h2 (dec_t h8) (by omega) | exact h3 (dec_t h8) (by omega))
  · refine j_bipush (v := (-101)) (p2 := 13) dX_fail_11 rfl rfl ?_
    refine j_ireturn dX_fail_13 rfl (by first | exact h1 (of_decide_eq_false h8) | exact h2 (dec_t h8) (by omega) | exact h3 (dec_t h8) (by omega))
theorem cX_lamp {m : Int} (hz : SzC σ) (hm : inR m) (h1 : ¬ cM σ m → Q (some (vI (-101))) σ) (h2 : cM σ m → Q (some (vI (hI σ 20 m))) σ) : Sp mX_lamp [vR 0, vI m] σ Q := by
  obtain ⟨z1, z2, z3⟩ := hz
  refine j_aload_n (p2 := 1) dX_lamp_0 rfl rfl ?_
  refine j_getR (p2 := 4) dX_lamp_1 rfl fa_X_10 ly_0 rfl ?_
  refine j_iload_n (p2 := 5) dX_lamp_4 rfl rfl ?_
  refine j_callV (m' := mP_has) (As := [_]) (p2 := 8) dX_lamp_5 rfl ml_X_89 ok_mP_has im_mP_has se_mP_has rfl rfl (Nat.le_of_ble_eq_true rfl) ly_3 rfl (Nat.le_of_ble_eq_true rfl) ⟨(Nat.le_of_ble_eq_true rfl), (Nat.le_of_ble_eq_true rfl)⟩ ?_
  refine cP_has hm z1 ?_
  refine j_ifb_eq (p2 := 11) (tg := 23) dX_lamp_8 rfl (by decide) (fun h8 => ?_) (fun h8 => ?_)
  · refine j_bipush (v := (-101)) (p2 := 25) dX_lamp_23 rfl rfl ?_
    refine j_ireturn dX_lamp_25 rfl (by first | exact h1 (of_decide_eq_false h8) | exact h2 (dec_t h8))
  · refine j_aload_n (p2 := 12) dX_lamp_11 rfl rfl ?_
    refine j_getR (p2 := 15) dX_lamp_12 rfl fa_X_28 ly_0 rfl ?_
    refine j_getR (p2 := 18) dX_lamp_15 rfl fa_X_193 ly_19 rfl ?_
    refine j_iload_n (p2 := 19) dX_lamp_18 rfl rfl ?_
    refine j_iald (p2 := 20) dX_lamp_19 rfl ly_20 (by decide) (by have := dec_t h8; omega) (by have := dec_t h8; omega) ?_
    refine j_goto (p2 := 25) dX_lamp_20 (by decide) ?_
    refine j_ireturn dX_lamp_25 rfl (by first | exact h1 (of_decide_eq_false h8) | exact h2 (dec_t h8))
theorem cX_rate {m : Int} (hz : SzC σ) (hm : inR m) (h1 : ¬ (¬ hI σ 0 9 = 0 ∧ cM σ m) → Q (some (vL 0)) σ) (h2 : ¬ hI σ 0 9 = 0 → cM σ m → Q (some (vL (hL σ 1 m))) σ) : Sp mX_rate [vR 0, vI m] σ Q := by
  obtain ⟨z1, z2, z3⟩ := hz
  refine j_aload_n (p2 := 1) dX_rate_0 rfl rfl ?_
  refine j_iload_n (p2 := 2) dX_rate_1 rfl rfl ?_
  refine j_callV (m' := mX_isRead) (As := [_]) (p2 := 5) dX_rate_2 rfl ml_X_179 ok_mX_isRead im_mX_isRead se_mX_isRead rfl rfl (Nat.le_of_ble_eq_true rfl) ly_0 rfl (Nat.le_of_ble_eq_true rfl) ⟨(Nat.le_of_ble_eq_true rfl), (Nat.le_of_ble_eq_true rfl)⟩ ?_
  refine cX_isRead hm z1 z2 ?_
  refine j_ifb_eq (p2 := 8) (tg := 17) dX_rate_5 rfl (by decide) (fun h5 => ?_) (fun h5 => ?_)
  · refine j_lconst (v := 0) (p2 := 18) dX_rate_17 rfl rfl ?_
    refine j_lreturn dX_rate_18 rfl (by first | exact h1 (of_decide_eq_false h5) | exact h2 (dec_t h5).1 (dec_t h5).2)
  · refine j_aload_n (p2 := 9) dX_rate_8 rfl rfl ?_
    refine j_getR (p2 := 12) dX_rate_9 rfl fa_X_60 ly_0 rfl ?_
    refine j_iload_n (p2 := 13) dX_rate_12 rfl rfl ?_
    refine j_lald (p2 := 14) dX_rate_13 rfl ly_1 (by decide) (by have := dec_t h5; omega) (by have := dec_t h5; omega) ?_
    refine j_goto (p2 := 18) dX_rate_14 (by decide) ?_
    refine j_lreturn dX_rate_18 rfl (by first | exact h1 (of_decide_eq_false h5) | exact h2 (dec_t h5).1 (dec_t h5).2)
theorem cX_apart {m : Int} (hz : SzC σ) (hm : inR m) (hb : ¬ hI σ 0 9 = 0 → cM σ m → (hD σ 2 m).toNat % 2 ^ 63 < 2047 * 2 ^ 52 ∧ (hD σ 2 m).toNat ≠ 2 ^ 63) (h1 : ¬ (¬ hI σ 0 9 = 0 ∧ cM σ m) → Q (some (vL 0)) σ) (h2 : ¬ hI σ 0 9 = 0 → cM σ m → Q (some (vL (hD σ 2 m).toInt64)) σ) : Sp mX_apart [vR 0, vI m] σ Q := by
  obtain ⟨z1, z2, z3⟩ := hz
  refine j_aload_n (p2 := 1) dX_apart_0 rfl rfl ?_
  refine j_iload_n (p2 := 2) dX_apart_1 rfl rfl ?_
  refine j_callV (m' := mX_isRead) (As := [_]) (p2 := 5) dX_apart_2 rfl ml_X_179 ok_mX_isRead im_mX_isRead se_mX_isRead rfl rfl (Nat.le_of_ble_eq_true rfl) ly_0 rfl (Nat.le_of_ble_eq_true rfl) ⟨(Nat.le_of_ble_eq_true rfl), (Nat.le_of_ble_eq_true rfl)⟩ ?_
  refine cX_isRead hm z1 z2 ?_
  refine j_ifb_eq (p2 := 8) (tg := 20) dX_apart_5 rfl (by decide) (fun h5 => ?_) (fun h5 => ?_)
  · refine j_lconst (v := 0) (p2 := 21) dX_apart_20 rfl rfl ?_
    refine j_lreturn dX_apart_21 rfl (by first | exact h1 (of_decide_eq_false h5) | exact h2 (dec_t h5).1 (dec_t h5).2)
  · refine j_aload_n (p2 := 9) dX_apart_8 rfl rfl ?_
    refine j_getR (p2 := 12) dX_apart_9 rfl fa_X_64 ly_0 rfl ?_
    refine j_iload_n (p2 := 13) dX_apart_12 rfl rfl ?_
    refine j_dald (p2 := 14) dX_apart_13 rfl ly_2 (by decide) (by have := dec_t h5; omega) (by have := dec_t h5; omega) ?_
    refine j_callS (m' := mN_bitsOf) (As := [_]) (p2 := 17) dX_apart_14 rfl ml_X_185 ok_mN_bitsOf sm_mN_bitsOf rfl rfl (Nat.le_of_ble_eq_true rfl) (Nat.le_of_ble_eq_true rfl) ⟨(Nat.le_of_ble_eq_true rfl), (Nat.le_of_ble_eq_true rfl)⟩ ?_
    have g := dec_t h5
    have hb := hb g.1 g.2
    refine cN_bitsOf hb.1 hb.2 ?_
    refine j_goto (p2 := 21) dX_apart_17 (by decide) ?_
    refine j_lreturn dX_apart_21 rfl (by first | exact h1 (of_decide_eq_false h5) | exact h2 (dec_t h5).1 (dec_t h5).2)
theorem cX_reading {m : Int} (hz : SzC σ) (hm : inR m) (hb : ¬ hI σ 0 9 = 0 → cM σ m → (hD σ 22 m).toNat % 2 ^ 63 < 2047 * 2 ^ 52 ∧ (hD σ 22 m).toNat ≠ 2 ^ 63) (h1 : ¬ (¬ hI σ 0 9 = 0 ∧ cM σ m) → Q (some (vL 0)) σ) (h2 : ¬ hI σ 0 9 = 0 → cM σ m → Q (some (vL (hD σ 22 m).toInt64)) σ) : Sp mX_reading [vR 0, vI m] σ Q := by
  obtain ⟨z1, z2, z3⟩ := hz
  refine j_aload_n (p2 := 1) dX_reading_0 rfl rfl ?_
  refine j_iload_n (p2 := 2) dX_reading_1 rfl rfl ?_
  refine j_callV (m' := mX_isRead) (As := [_]) (p2 := 5) dX_reading_2 rfl ml_X_179 ok_mX_isRead im_mX_isRead se_mX_isRead rfl rfl (Nat.le_of_ble_eq_true rfl) ly_0 rfl (Nat.le_of_ble_eq_true rfl) ⟨(Nat.le_of_ble_eq_true rfl), (Nat.le_of_ble_eq_true rfl)⟩ ?_
  refine cX_isRead hm z1 z2 ?_
  refine j_ifb_eq (p2 := 8) (tg := 23) dX_reading_5 rfl (by decide) (fun h5 => ?_) (fun h5 => ?_)
  · refine j_lconst (v := 0) (p2 := 24) dX_reading_23 rfl rfl ?_
    refine j_lreturn dX_reading_24 rfl (by first | exact h1 (of_decide_eq_false h5) | exact h2 (dec_t h5).1 (dec_t h5).2)
  · refine j_aload_n (p2 := 9) dX_reading_8 rfl rfl ?_
    refine j_getR (p2 := 12) dX_reading_9 rfl fa_X_37 ly_0 rfl ?_
    refine j_getR (p2 := 15) dX_reading_12 rfl fa_X_182 ly_21 rfl ?_
    refine j_iload_n (p2 := 16) dX_reading_15 rfl rfl ?_
    refine j_dald (p2 := 17) dX_reading_16 rfl ly_22 (by decide) (by have := dec_t h5; omega) (by have := dec_t h5; omega) ?_
    refine j_callS (m' := mN_bitsOf) (As := [_]) (p2 := 20) dX_reading_17 rfl ml_X_185 ok_mN_bitsOf sm_mN_bitsOf rfl rfl (Nat.le_of_ble_eq_true rfl) (Nat.le_of_ble_eq_true rfl) ⟨(Nat.le_of_ble_eq_true rfl), (Nat.le_of_ble_eq_true rfl)⟩ ?_
    have g := dec_t h5
    have hb := hb g.1 g.2
    refine cN_bitsOf hb.1 hb.2 ?_
    refine j_goto (p2 := 24) dX_reading_20 (by decide) ?_
    refine j_lreturn dX_reading_24 rfl (by first | exact h1 (of_decide_eq_false h5) | exact h2 (dec_t h5).1 (dec_t h5).2)
theorem cX_single {m : Int} {a : UInt32} (hz : SzC σ) (hm : inR m) (hb : ¬ hI σ 0 9 = 0 → cM σ m → hD σ 35 m = FP.f2d a ∧ a.toNat % 2 ^ 31 < 255 * 2 ^ 23 ∧ a.toNat ≠ 2 ^ 31) (h1 : ¬ (¬ hI σ 0 9 = 0 ∧ cM σ m) → Q (some (vI 0)) σ) (h2 : ¬ hI σ 0 9 = 0 → cM σ m → Q (some (vI a.toInt32.toInt)) σ) : Sp mX_single [vR 0, vI m] σ Q := by
  obtain ⟨z1, z2, z3⟩ := hz
  refine j_aload_n (p2 := 1) dX_single_0 rfl rfl ?_
  refine j_iload_n (p2 := 2) dX_single_1 rfl rfl ?_
  refine j_callV (m' := mX_isRead) (As := [_]) (p2 := 5) dX_single_2 rfl ml_X_179 ok_mX_isRead im_mX_isRead se_mX_isRead rfl rfl (Nat.le_of_ble_eq_true rfl) ly_0 rfl (Nat.le_of_ble_eq_true rfl) ⟨(Nat.le_of_ble_eq_true rfl), (Nat.le_of_ble_eq_true rfl)⟩ ?_
  refine cX_isRead hm z1 z2 ?_
  refine j_ifb_eq (p2 := 8) (tg := 23) dX_single_5 rfl (by decide) (fun h5 => ?_) (fun h5 => ?_)
  · refine j_iconst (p2 := 24) dX_single_23 rfl ?_
    refine j_ireturn dX_single_24 rfl (by first | exact h1 (of_decide_eq_false h5) | exact h2 (dec_t h5).1 (dec_t h5).2)
  · refine j_aload_n (p2 := 9) dX_single_8 rfl rfl ?_
    refine j_getR (p2 := 12) dX_single_9 rfl fa_X_41 ly_0 rfl ?_
    refine j_getR (p2 := 15) dX_single_12 rfl fa_X_182 ly_34 rfl ?_
    refine j_iload_n (p2 := 16) dX_single_15 rfl rfl ?_
    refine j_dald (p2 := 17) dX_single_16 rfl ly_35 (by decide) (by have := dec_t h5; omega) (by have := dec_t h5; omega) ?_
    refine j_callS (m' := mN_floatBitsOf) (As := [_]) (p2 := 20) dX_single_17 rfl ml_X_189 ok_mN_floatBitsOf sm_mN_floatBitsOf rfl rfl (Nat.le_of_ble_eq_true rfl) (Nat.le_of_ble_eq_true rfl) ⟨(Nat.le_of_ble_eq_true rfl), (Nat.le_of_ble_eq_true rfl)⟩ ?_
    have g := dec_t h5
    have hb := hb g.1 g.2
    rw [hb.1]
    refine cN_floatBitsOf hb.2.1 hb.2.2 ?_
    refine j_goto (p2 := 24) dX_single_20 (by decide) ?_
    refine j_ireturn dX_single_24 rfl (by first | exact h1 (of_decide_eq_false h5) | exact h2 (dec_t h5).1 (dec_t h5).2)
theorem cX_samples {s : Int} (hz : SzC σ) (hm : inR s) (h1 : ¬ cSt σ s → Q (some (vI (-101))) σ) (h2 : cSt σ s → Q (some (vI (hI σ 49 s))) σ) : Sp mX_samples [vR 0, vI s] σ Q := by
  obtain ⟨z1, z2, z3⟩ := hz
  refine j_aload_n (p2 := 1) dX_samples_0 rfl rfl ?_
  refine j_getR (p2 := 4) dX_samples_1 rfl fa_X_47 ly_0 rfl ?_
  refine j_iload_n (p2 := 5) dX_samples_4 rfl rfl ?_
  refine j_callV (m' := mS_has) (As := [_]) (p2 := 8) dX_samples_5 rfl ml_X_237 ok_mS_has im_mS_has se_mS_has rfl rfl (Nat.le_of_ble_eq_true rfl) ly_47 rfl (Nat.le_of_ble_eq_true rfl) ⟨(Nat.le_of_ble_eq_true rfl), (Nat.le_of_ble_eq_true rfl)⟩ ?_
  refine cS_has hm (by constructor <;> omega) ?_
  refine j_ifb_eq (p2 := 11) (tg := 23) dX_samples_8 rfl (by decide) (fun h8 => ?_) (fun h8 => ?_)
  · refine j_bipush (v := (-101)) (p2 := 25) dX_samples_23 rfl rfl ?_
    refine j_ireturn dX_samples_25 rfl (by first | exact h1 (of_decide_eq_false h8) | exact h2 (dec_t h8))
  · refine j_aload_n (p2 := 12) dX_samples_11 rfl rfl ?_
    refine j_getR (p2 := 15) dX_samples_12 rfl fa_X_47 ly_0 rfl ?_
    refine j_getR (p2 := 18) dX_samples_15 rfl fa_X_238 ly_47 rfl ?_
    refine j_iload_n (p2 := 19) dX_samples_18 rfl rfl ?_
    refine j_iald (p2 := 20) dX_samples_19 rfl ly_49 (by decide) (by have := dec_t h8; omega) (by have := dec_t h8; omega) ?_
    refine j_goto (p2 := 25) dX_samples_20 (by decide) ?_
    refine j_ireturn dX_samples_25 rfl (by first | exact h1 (of_decide_eq_false h8) | exact h2 (dec_t h8))
theorem cX_sample {s i : Int} (hz : SzC σ) (hm : inR s) (hi : inR i) (hl : cSt σ s → 0 ≤ hI σ 49 s ∧ hI σ 49 s ≤ 120) (h1 : ¬ (cSt σ s ∧ 0 ≤ i ∧ i < hI σ 49 s) → Q (some (vL 0)) σ) (h2 : cSt σ s → 0 ≤ i ∧ i < hI σ 49 s → Q (some (vL (hL σ 50 (120 * s + i)))) σ) : Sp mX_sample [vR 0, vI s, vI i] σ Q := by
  obtain ⟨z1, z2, z3⟩ := hz
  refine j_aload_n (p2 := 1) dX_sample_0 rfl rfl ?_
  refine j_getR (p2 := 4) dX_sample_1 rfl fa_X_47 ly_0 rfl ?_
  refine j_iload_n (p2 := 5) dX_sample_4 rfl rfl ?_
  refine j_callV (m' := mS_has) (As := [_]) (p2 := 8) dX_sample_5 rfl ml_X_237 ok_mS_has im_mS_has se_mS_has rfl rfl (Nat.le_of_ble_eq_true rfl) ly_47 rfl (Nat.le_of_ble_eq_true rfl) ⟨(Nat.le_of_ble_eq_true rfl), (Nat.le_of_ble_eq_true rfl)⟩ ?_
  refine cS_has hm (by constructor <;> omega) ?_
  refine j_ifb_eq (p2 := 11) (tg := 28) dX_sample_8 rfl (by decide) (fun h8 => ?_) (fun h8 => ?_)
  · refine j_lconst (v := 0) (p2 := 29) dX_sample_28 rfl rfl ?_
    refine j_lreturn dX_sample_29 rfl (by first | exact h1 (fun q => (of_decide_eq_false h8) q.1) | exact h1 (fun q => by omega) | (rw [Int.mul_comm s 120]; exact h2 (dec_t h8) (by omega)))
  · refine j_iload_n (p2 := 12) dX_sample_11 rfl rfl ?_
    refine j_if_lt (p2 := 15) (tg := 28) dX_sample_12 rfl (by decide) (by constructor <;> omega) (fun h12 => ?_) (fun h12 => ?_)
    · refine j_lconst (v := 0) (p2 := 29) dX_sample_28 rfl rfl ?_
      refine j_lreturn dX_sample_29 rfl (by first | exact h1 (fun q => (of_decide_eq_false h8) q.1) | exact h1 (fun q => by omega) | (rw [Int.mul_comm s 120]; exact h2 (dec_t h8) (by omega)))
    · refine j_iload_n (p2 := 16) dX_sample_15 rfl rfl ?_
      refine j_aload_n (p2 := 17) dX_sample_16 rfl rfl ?_
      refine j_getR (p2 := 20) dX_sample_17 rfl fa_X_47 ly_0 rfl ?_
      refine j_getR (p2 := 23) dX_sample_20 rfl fa_X_238 ly_47 rfl ?_
      refine j_iload_n (p2 := 24) dX_sample_23 rfl rfl ?_
      refine j_iald (p2 := 25) dX_sample_24 rfl ly_49 (by decide) (by have := dec_t h8; omega) (by have := dec_t h8; omega) ?_
      refine j_icmp_lt (p2 := 28) (tg := 30) dX_sample_25 rfl (by decide) (by constructor <;> omega) (by have := hl (dec_t h8); constructor <;> omega) (fun h25 => ?_) (fun h25 => ?_)
      · refine j_aload_n (p2 := 31) dX_sample_30 rfl rfl ?_
        refine j_getR (p2 := 34) dX_sample_31 rfl fa_X_47 ly_0 rfl ?_
        refine j_iload_n (p2 := 35) dX_sample_34 rfl rfl ?_
        refine j_iload_n (p2 := 36) dX_sample_35 rfl rfl ?_
        refine j_callV (m' := mS_at) (As := [_, _]) (p2 := 39) dX_sample_36 rfl ml_X_241 ok_mS_at im_mS_at se_mS_at rfl rfl (Nat.le_of_ble_eq_true rfl) ly_47 rfl (Nat.le_of_ble_eq_true rfl) ⟨(Nat.le_of_ble_eq_true rfl), (Nat.le_of_ble_eq_true rfl)⟩ ?_
        have g := dec_t h8
        have hl := hl g
        refine cS_at ⟨by omega, by omega⟩ ⟨by omega, by omega⟩ ?_
        refine j_lreturn dX_sample_39 rfl (by first | exact h1 (fun q => (of_decide_eq_false h8) q.1) | exact h1 (fun q => by omega) | (rw [Int.mul_comm s 120]; exact h2 (dec_t h8) (by omega)))
      · refine j_lconst (v := 0) (p2 := 29) dX_sample_28 rfl rfl ?_
        refine j_lreturn dX_sample_29 rfl (by first | exact h1 (fun q => (of_decide_eq_false h8) q.1) | exact h1 (fun q => by omega) | (rw [Int.mul_comm s 120]; exact h2 (dec_t h8) (by omega)))
theorem cX_crossing {s k : Int} (hz : SzC σ) (hm : inR s) (hk : inR k) (hl : cSt σ s → 0 ≤ hI σ 49 s ∧ hI σ 49 s ≤ 120) (h1 : ¬ cSt σ s → Q (some (vI (-101))) σ) (h2 : cSt σ s → Q (some (vI (plc (crL (hL σ 50) s) k (hI σ 49 s - 1).toNat 1 0))) σ) : Sp mX_crossing [vR 0, vI s, vI k] σ Q := by
  obtain ⟨z1, z2, z3⟩ := hz
  refine j_aload_n (p2 := 1) dX_crossing_0 rfl rfl ?_
  refine j_getR (p2 := 4) dX_crossing_1 rfl fa_X_47 ly_0 rfl ?_
  refine j_iload_n (p2 := 5) dX_crossing_4 rfl rfl ?_
  refine j_callV (m' := mS_has) (As := [_]) (p2 := 8) dX_crossing_5 rfl ml_X_237 ok_mS_has im_mS_has se_mS_has rfl rfl (Nat.le_of_ble_eq_true rfl) ly_47 rfl (Nat.le_of_ble_eq_true rfl) ⟨(Nat.le_of_ble_eq_true rfl), (Nat.le_of_ble_eq_true rfl)⟩ ?_
  refine cS_has hm (by constructor <;> omega) ?_
  refine j_ifb_eq (p2 := 11) (tg := 24) dX_crossing_8 rfl (by decide) (fun h8 => ?_) (fun h8 => ?_)
  · refine j_bipush (v := (-101)) (p2 := 26) dX_crossing_24 rfl rfl ?_
    refine j_ireturn dX_crossing_26 rfl (by first | exact h1 (of_decide_eq_false h8) | exact h2 (dec_t h8))
  · refine j_aload_n (p2 := 12) dX_crossing_11 rfl rfl ?_
    refine j_getR (p2 := 15) dX_crossing_12 rfl fa_X_47 ly_0 rfl ?_
    refine j_iload_n (p2 := 16) dX_crossing_15 rfl rfl ?_
    refine j_iload_n (p2 := 17) dX_crossing_16 rfl rfl ?_
    refine j_iconst (p2 := 18) dX_crossing_17 rfl ?_
    refine j_callV (m' := mS_place) (As := [_, _, _]) (p2 := 21) dX_crossing_18 rfl ml_X_245 ok_mS_place im_mS_place se_mS_place rfl rfl (Nat.le_of_ble_eq_true rfl) ly_47 rfl (Nat.le_of_ble_eq_true rfl) ⟨(Nat.le_of_ble_eq_true rfl), (Nat.le_of_ble_eq_true rfl)⟩ ?_
    have g := dec_t h8
    refine cS_place ⟨by omega, by omega⟩ (hl g) hk (Or.inl rfl) ?_
    refine j_goto (p2 := 26) dX_crossing_21 (by decide) ?_
    refine j_ireturn dX_crossing_26 rfl (by first | exact h1 (of_decide_eq_false h8) | exact h2 (dec_t h8))
theorem cX_peak {s k : Int} (hz : SzC σ) (hm : inR s) (hk : inR k) (hl : cSt σ s → 0 ≤ hI σ 49 s ∧ hI σ 49 s ≤ 120) (h1 : ¬ cSt σ s → Q (some (vI (-101))) σ) (h2 : cSt σ s → Q (some (vI (plc (pkL (hL σ 50) (hI σ 49 s) s) k (hI σ 49 s - 1).toNat 1 0))) σ) : Sp mX_peak [vR 0, vI s, vI k] σ Q := by
  obtain ⟨z1, z2, z3⟩ := hz
  refine j_aload_n (p2 := 1) dX_peak_0 rfl rfl ?_
  refine j_getR (p2 := 4) dX_peak_1 rfl fa_X_47 ly_0 rfl ?_
  refine j_iload_n (p2 := 5) dX_peak_4 rfl rfl ?_
  refine j_callV (m' := mS_has) (As := [_]) (p2 := 8) dX_peak_5 rfl ml_X_237 ok_mS_has im_mS_has se_mS_has rfl rfl (Nat.le_of_ble_eq_true rfl) ly_47 rfl (Nat.le_of_ble_eq_true rfl) ⟨(Nat.le_of_ble_eq_true rfl), (Nat.le_of_ble_eq_true rfl)⟩ ?_
  refine cS_has hm (by constructor <;> omega) ?_
  refine j_ifb_eq (p2 := 11) (tg := 24) dX_peak_8 rfl (by decide) (fun h8 => ?_) (fun h8 => ?_)
  · refine j_bipush (v := (-101)) (p2 := 26) dX_peak_24 rfl rfl ?_
    refine j_ireturn dX_peak_26 rfl (by first | exact h1 (of_decide_eq_false h8) | exact h2 (dec_t h8))
  · refine j_aload_n (p2 := 12) dX_peak_11 rfl rfl ?_
    refine j_getR (p2 := 15) dX_peak_12 rfl fa_X_47 ly_0 rfl ?_
    refine j_iload_n (p2 := 16) dX_peak_15 rfl rfl ?_
    refine j_iload_n (p2 := 17) dX_peak_16 rfl rfl ?_
    refine j_iconst (p2 := 18) dX_peak_17 rfl ?_
    refine j_callV (m' := mS_place) (As := [_, _, _]) (p2 := 21) dX_peak_18 rfl ml_X_245 ok_mS_place im_mS_place se_mS_place rfl rfl (Nat.le_of_ble_eq_true rfl) ly_47 rfl (Nat.le_of_ble_eq_true rfl) ⟨(Nat.le_of_ble_eq_true rfl), (Nat.le_of_ble_eq_true rfl)⟩ ?_
    have g := dec_t h8
    refine cS_place ⟨by omega, by omega⟩ (hl g) hk (Or.inr rfl) ?_
    refine j_goto (p2 := 26) dX_peak_21 (by decide) ?_
    refine j_ireturn dX_peak_26 rfl (by first | exact h1 (of_decide_eq_false h8) | exact h2 (dec_t h8))
theorem cX_strip {m : Int} (hz : SzC σ) (hm : inR m) (h1 : ¬ cM σ m → Q (some (vI (-101))) σ) (h2 : cM σ m → ¬ hI σ 0 9 = 0 → Q (some (vI (-103))) σ) (h3 : cM σ m → hI σ 0 9 = 0 → ¬ hI σ 47 0 < 6 → Q (some (vI (-104))) σ) (h4 : cM σ m → hI σ 0 9 = 0 → hI σ 47 0 < 6 → Q (some (vI (hI σ 47 0))) (saH σ m)) : Sp mX_strip [vR 0, vI m] σ Q := by
  obtain ⟨z1, z2, z3⟩ := hz
  refine j_aload_n (p2 := 1) dX_strip_0 rfl rfl ?_
  refine j_getR (p2 := 4) dX_strip_1 rfl fa_X_10 ly_0 rfl ?_
  refine j_iload_n (p2 := 5) dX_strip_4 rfl rfl ?_
  refine j_callV (m' := mP_has) (As := [_]) (p2 := 8) dX_strip_5 rfl ml_X_89 ok_mP_has im_mP_has se_mP_has rfl rfl (Nat.le_of_ble_eq_true rfl) ly_3 rfl (Nat.le_of_ble_eq_true rfl) ⟨(Nat.le_of_ble_eq_true rfl), (Nat.le_of_ble_eq_true rfl)⟩ ?_
  refine cP_has hm z1 ?_
  refine j_ifb_ne (p2 := 11) (tg := 14) dX_strip_8 rfl (by decide) (fun h8 => ?_) (fun h8 => ?_)
  · refine j_aload_n (p2 := 15) dX_strip_14 rfl rfl ?_
    refine j_getIk (p2 := 18) dX_strip_15 rfl fa_X_68 ly_0 rfl (ki := 9) rfl ?_
    refine j_if_eq (p2 := 21) (tg := 24) dX_strip_18 rfl (by decide) (by exact z2) (fun h18 => ?_) (fun h18 => ?_)
    · refine j_aload_n (p2 := 25) dX_strip_24 rfl rfl ?_
      refine j_getR (p2 := 28) dX_strip_25 rfl fa_X_47 ly_0 rfl ?_
      refine j_getIk (p2 := 31) dX_strip_28 rfl fa_X_234 ly_47 rfl (ki := 0) rfl ?_
      refine j_bipush (v := 6) (p2 := 33) dX_strip_31 rfl rfl ?_
      refine j_icmp_lt (p2 := 36) (tg := 39) dX_strip_33 rfl (by decide) (by constructor <;> omega) (by constructor <;> omega) (fun h33 => ?_) (fun h33 => ?_)
      · refine j_aload_n (p2 := 40) dX_strip_39 rfl rfl ?_
        refine j_getR (p2 := 43) dX_strip_40 rfl fa_X_47 ly_0 rfl ?_
        refine j_iload_n (p2 := 44) dX_strip_43 rfl rfl ?_
        refine j_callV (m' := mS_add) (As := [_]) (p2 := 47) dX_strip_44 rfl ml_X_235 ok_mS_add im_mS_add se_mS_add rfl rfl (Nat.le_of_ble_eq_true rfl) ly_47 rfl (Nat.le_of_ble_eq_true rfl) ⟨(Nat.le_of_ble_eq_true rfl), (Nat.le_of_ble_eq_true rfl)⟩ ?_
        refine cS_add hm ⟨by omega, by omega⟩ ?_
        refine j_ireturn dX_strip_47 rfl (by first | exact h1 (of_decide_eq_false h8) | exact h2 (dec_t h8) h18 | exact h3 (dec_t h8) h18 (by omega) | exact h4 (dec_t h8) h18 (by omega))
      · refine j_bipush (v := (-104)) (p2 := 38) dX_strip_36 rfl rfl ?_
        refine j_ireturn dX_strip_38 rfl (by first | exact h1 (of_decide_eq_false h8) | exact h2 (dec_t h8) h18 | exact h3 (dec_t h8) h18 (by omega) | exact h4 (dec_t h8) h18 (by omega))
    · refine j_bipush (v := (-103)) (p2 := 23) dX_strip_21 rfl rfl ?_
      refine j_ireturn dX_strip_23 rfl (by first | exact h1 (of_decide_eq_false h8) | exact h2 (dec_t h8) h18 | exact h3 (dec_t h8) h18 (by omega) | exact h4 (dec_t h8) h18 (by omega))
  · refine j_bipush (v := (-101)) (p2 := 13) dX_strip_11 rfl rfl ?_
    refine j_ireturn dX_strip_13 rfl (by first | exact h1 (of_decide_eq_false h8) | exact h2 (dec_t h8) h18 | exact h3 (dec_t h8) h18 (by omega) | exact h4 (dec_t h8) h18 (by omega))
theorem cX_rule {r k : Int} (hz : SzC σ) (hr : inR r) (hk : inR k) (q1 : ¬ ((0 ≤ r ∧ r ≤ 2) ∧ 1 ≤ k ∧ k ≤ 20) → Q (some (vI (-102))) σ) (q2 : ((0 ≤ r ∧ r ≤ 2) ∧ 1 ≤ k ∧ k ≤ 20) → ¬ hI σ 0 9 = 0 → Q (some (vI (-103))) σ) (q3 : ((0 ≤ r ∧ r ≤ 2) ∧ 1 ≤ k ∧ k ≤ 20) → hI σ 0 9 = 0 → Q (some (vI 1)) (wI (wI σ 3 (fup (hI σ 3) 1 r)) 3 (fup (fup (hI σ 3) 1 r) 2 k))) : Sp mX_rule [vR 0, vI r, vI k] σ Q := by
  obtain ⟨z1, z2, z3⟩ := hz
  refine j_iload_n (p2 := 1) dX_rule_0 rfl rfl ?_
  refine j_if_lt (p2 := 4) (tg := 20) dX_rule_1 rfl (by decide) (by constructor <;> omega) (fun h1 => ?_) (fun h1 => ?_)
  · refine j_bipush (v := (-102)) (p2 := 22) dX_rule_20 rfl rfl ?_
    refine j_ireturn dX_rule_22 rfl (by first | exact q1 (by omega) | exact q2 (by omega) h27 | exact q3 (by omega) h27)
  · refine j_iload_n (p2 := 5) dX_rule_4 rfl rfl ?_
    refine j_iconst (p2 := 6) dX_rule_5 rfl ?_
    refine j_icmp_gt (p2 := 9) (tg := 20) dX_rule_6 rfl (by decide) (by constructor <;> omega) (by constructor <;> omega) (fun h6 => ?_) (fun h6 => ?_)
    · refine j_bipush (v := (-102)) (p2 := 22) dX_rule_20 rfl rfl ?_
      refine j_ireturn dX_rule_22 rfl (by first | exact q1 (by omega) | exact q2 (by omega) h27 | exact q3 (by omega) h27)
    · refine j_iload_n (p2 := 10) dX_rule_9 rfl rfl ?_
      refine j_iconst (p2 := 11) dX_rule_10 rfl ?_
      refine j_icmp_lt (p2 := 14) (tg := 20) dX_rule_11 rfl (by decide) (by constructor <;> omega) (by constructor <;> omega) (fun h11 => ?_) (fun h11 => ?_)
      · refine j_bipush (v := (-102)) (p2 := 22) dX_rule_20 rfl rfl ?_
        refine j_ireturn dX_rule_22 rfl (by first | exact q1 (by omega) | exact q2 (by omega) h27 | exact q3 (by omega) h27)
      · refine j_iload_n (p2 := 15) dX_rule_14 rfl rfl ?_
        refine j_bipush (v := 20) (p2 := 17) dX_rule_15 rfl rfl ?_
        refine j_icmp_le (p2 := 20) (tg := 23) dX_rule_17 rfl (by decide) (by constructor <;> omega) (by constructor <;> omega) (fun h17 => ?_) (fun h17 => ?_)
        · refine j_aload_n (p2 := 24) dX_rule_23 rfl rfl ?_
          refine j_getIk (p2 := 27) dX_rule_24 rfl fa_X_68 ly_0 rfl (ki := 9) rfl ?_
          refine j_if_eq (p2 := 30) (tg := 33) dX_rule_27 rfl (by decide) (by exact z2) (fun h27 => ?_) (fun h27 => ?_)
          · refine j_aload_n (p2 := 34) dX_rule_33 rfl rfl ?_
            refine j_getR (p2 := 37) dX_rule_34 rfl fa_X_10 ly_0 rfl ?_
            refine j_iload_n (p2 := 38) dX_rule_37 rfl rfl ?_
            refine j_putIk (p2 := 41) dX_rule_38 rfl fw_X_128 ly_3 rfl (ki := 1) rfl ?_
            refine j_aload_n (p2 := 42) dX_rule_41 rfl rfl ?_
            refine j_getR (p2 := 45) dX_rule_42 rfl fa_X_10 ly_0 rfl ?_
            refine j_iload_n (p2 := 46) dX_rule_45 rfl rfl ?_
            refine j_putIk (p2 := 49) dX_rule_46 rfl fw_X_131 ly_3 rfl (ki := 2) rfl ?_
            refine j_iconst (p2 := 50) dX_rule_49 rfl ?_
            refine j_ireturn dX_rule_50 rfl (by first | exact q1 (by omega) | exact q2 (by omega) h27 | exact q3 (by omega) h27)
          · refine j_bipush (v := (-103)) (p2 := 32) dX_rule_30 rfl rfl ?_
            refine j_ireturn dX_rule_32 rfl (by first | exact q1 (by omega) | exact q2 (by omega) h27 | exact q3 (by omega) h27)
        · refine j_bipush (v := (-102)) (p2 := 22) dX_rule_20 rfl rfl ?_
          refine j_ireturn dX_rule_22 rfl (by first | exact q1 (by omega) | exact q2 (by omega) h27 | exact q3 (by omega) h27)
theorem cX_swept {j : Int} (hj : inR j) (hc : 0 ≤ hI σ 51 3 ∧ hI σ 51 3 ≤ 6) (hb : 0 ≤ j ∧ j < hI σ 51 3 → (hD σ 52 j).toNat % 2 ^ 63 < 2047 * 2 ^ 52 ∧ (hD σ 52 j).toNat ≠ 2 ^ 63) (q1 : ¬ (0 ≤ j ∧ j < hI σ 51 3) → Q (some (vL 0)) σ) (q2 : 0 ≤ j ∧ j < hI σ 51 3 → Q (some (vL (hD σ 52 j).toInt64)) σ) : Sp mX_swept [vR 0, vI j] σ Q := by
  refine j_iload_n (p2 := 1) dX_swept_0 rfl rfl ?_
  refine j_if_lt (p2 := 4) (tg := 30) dX_swept_1 rfl (by decide) (by constructor <;> omega) (fun h1 => ?_) (fun h1 => ?_)
  · refine j_lconst (v := 0) (p2 := 31) dX_swept_30 rfl rfl ?_
    refine j_lreturn dX_swept_31 rfl (by first | exact q1 (by omega) | exact q2 (by omega))
  · refine j_iload_n (p2 := 5) dX_swept_4 rfl rfl ?_
    refine j_aload_n (p2 := 6) dX_swept_5 rfl rfl ?_
    refine j_getR (p2 := 9) dX_swept_6 rfl fa_X_56 ly_0 rfl ?_
    refine j_getIk (p2 := 12) dX_swept_9 rfl fa_X_253 ly_51 rfl (ki := 3) rfl ?_
    refine j_icmp_ge (p2 := 15) (tg := 30) dX_swept_12 rfl (by decide) (by constructor <;> omega) (by constructor <;> omega) (fun h12 => ?_) (fun h12 => ?_)
    · refine j_lconst (v := 0) (p2 := 31) dX_swept_30 rfl rfl ?_
      refine j_lreturn dX_swept_31 rfl (by first | exact q1 (by omega) | exact q2 (by omega))
    · refine j_aload_n (p2 := 16) dX_swept_15 rfl rfl ?_
      refine j_getR (p2 := 19) dX_swept_16 rfl fa_X_56 ly_0 rfl ?_
      refine j_getR (p2 := 22) dX_swept_19 rfl fa_X_256 ly_51 rfl ?_
      refine j_iload_n (p2 := 23) dX_swept_22 rfl rfl ?_
      refine j_dald (p2 := 24) dX_swept_23 rfl ly_52 (by decide) (by omega) (by omega) ?_
      refine j_callS (m' := mN_bitsOf) (As := [_]) (p2 := 27) dX_swept_24 rfl ml_X_185 ok_mN_bitsOf sm_mN_bitsOf rfl rfl (Nat.le_of_ble_eq_true rfl) (Nat.le_of_ble_eq_true rfl) ⟨(Nat.le_of_ble_eq_true rfl), (Nat.le_of_ble_eq_true rfl)⟩ ?_
      have hb := hb (by omega)
      refine cN_bitsOf hb.1 hb.2 ?_
      refine j_goto (p2 := 31) dX_swept_27 (by decide) ?_
      refine j_lreturn dX_swept_31 rfl (by first | exact q1 (by omega) | exact q2 (by omega))
theorem cX_level {fr : Int → Int} {m : Int} (hz : SzC σ) (hm : inR m) (hc : CtI σ fr N) (h01 : hI σ 3 3 = 0 ∨ hI σ 3 3 = 1) (hf : hI σ 3 3 = 0 → LevR σ fr N) (h1 : ¬ cM σ m → Q (some (vI (-101))) σ) (h2 : cM σ m → ∀ τ, Fq [3, 15, 16, 17, 18] σ τ → (∀ k : Int, ¬ k = 3 → hI τ 3 k = hI σ 3 k) → hI τ 3 3 = 0 → hD τ 3 = hD σ 3 → LevR τ fr N → Q (some (vI (lvC (hI σ 4) fr N m))) τ) : Sp mX_level [vR 0, vI m] σ Q := by
  obtain ⟨z1, z2, z3⟩ := hz
  have hN := hc.1
  refine j_aload_n (p2 := 1) dX_level_0 rfl rfl ?_
  refine j_getR (p2 := 4) dX_level_1 rfl fa_X_10 ly_0 rfl ?_
  refine j_iload_n (p2 := 5) dX_level_4 rfl rfl ?_
  refine j_callV (m' := mP_has) (As := [_]) (p2 := 8) dX_level_5 rfl ml_X_89 ok_mP_has im_mP_has se_mP_has rfl rfl (Nat.le_of_ble_eq_true rfl) ly_3 rfl (Nat.le_of_ble_eq_true rfl) ⟨(Nat.le_of_ble_eq_true rfl), (Nat.le_of_ble_eq_true rfl)⟩ ?_
  refine cP_has hm z1 ?_
  refine j_ifb_ne (p2 := 11) (tg := 14) dX_level_8 rfl (by decide) (fun h8 => ?_) (fun h8 => ?_)
  · refine j_aload_n (p2 := 15) dX_level_14 rfl rfl ?_
    refine j_getR (p2 := 18) dX_level_15 rfl fa_X_21 ly_0 rfl ?_
    refine j_callV (m' := mV_refresh) (As := []) (p2 := 21) dX_level_18 rfl ml_X_145 ok_mV_refresh im_mV_refresh se_mV_refresh rfl rfl (Nat.le_of_ble_eq_true rfl) ly_15 rfl (Nat.le_of_ble_eq_true rfl) ⟨(Nat.le_of_ble_eq_true rfl), (Nat.le_of_ble_eq_true rfl)⟩ ?_
    refine cV_refresh hc h01 hf (fun τ F f1 f2 f3 hL => ?_)
    have g := dec_t h8
    have el : hI τ 16 m = lvC (hI σ 4) fr N m := by rw [← F.I (c := 4) (by decide)]; exact hL.1 m (by omega) (by omega)
    refine j_aload_n (p2 := 22) dX_level_21 rfl rfl ?_
    refine j_getR (p2 := 25) dX_level_22 rfl fa_X_21 ly_0 rfl ?_
    refine j_getR (p2 := 28) dX_level_25 rfl fa_X_148 ly_15 rfl ?_
    refine j_iload_n (p2 := 29) dX_level_28 rfl rfl ?_
    refine j_iald (p2 := 30) dX_level_29 rfl ly_16 (by decide) (by omega) (by omega) ?_
    refine j_ireturn dX_level_30 rfl (by first | exact h1 (of_decide_eq_false h8) | (rw [el]; exact h2 g τ F f1 f2 f3 hL))
  · refine j_bipush (v := (-101)) (p2 := 13) dX_level_11 rfl rfl ?_
    refine j_ireturn dX_level_13 rfl (by first | exact h1 (of_decide_eq_false h8) | (rw [el]; exact h2 g τ F f1 f2 f3 hL))
end PAN6
