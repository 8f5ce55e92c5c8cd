/-! ===== the panel: count ===== -/
def cntC (σ : Hp) (N : Nat) (w : Int) : Int := if w = 0 then hI σ 3 0 else if w = 1 then hI σ 47 0 else if w = 2 then ctN (hI σ 9) (6 * N) else if w = 4 then ctN (hI σ 20) N else if w = 5 then hI σ 0 12 else if w = 6 then hI σ 3 1 else if w = 7 then hI σ 3 2 else -102
section CNT
variable {σ : Hp} {Q : Option PV → Hp → Prop} {N : Nat}
theorem cX_count {fr : Int → Int} {w : Int} (hw : inR w) (hc : CtI σ fr N) (h01 : hI σ 3 3 = 0 ∨ hI σ 3 3 = 1) (hf : hI σ 3 3 = 0 → LevR σ fr N) (h9 : ∀ k : Int, 0 ≤ k → k < 6 * N → inR (hI σ 9 k)) (hl : ∀ k : Int, 0 ≤ k → k < N → inR (hI σ 20 k)) (q3 : w = 3 → ∀ τ, Rfr σ τ fr N → Q (some (vI (gmost (lvC (hI σ 4) fr N) N))) τ) (q0 : ¬ w = 3 → Q (some (vI (cntC σ N w))) σ) : Sp mX_count [vR 0, vI w] σ Q := by
  have hN := hc.1
  have hN2 := hc.2.1
  unfold cntC at q0
  refine j_iload_n (p2 := 1) dX_count_0 rfl rfl ?_
  rcases (by omega : w = 0 ∨ w = 1 ∨ w = 2 ∨ w = 3 ∨ w = 4 ∨ w = 5 ∨ w = 6 ∨ w = 7 ∨ (w < 0 ∨ 7 < w)) with hk | hk | hk | hk | hk | hk | hk | hk | hk
  · refine j_tsw_in (tg := 48) dX_count_1 (by constructor <;> omega) (by omega) (by omega) (by rw [hk]; rfl) (by decide) ?_
    refine j_aload_n (p2 := 49) dX_count_48 rfl rfl ?_
    refine j_getR (p2 := 52) dX_count_49 rfl fa_X_10 ly_0 rfl ?_
    refine j_getIk (p2 := 55) dX_count_52 rfl fa_X_82 ly_3 rfl (ki := 0) rfl ?_
    refine j_ireturn dX_count_55 rfl (by subst hk; exact q0 (by decide))
  · refine j_tsw_in (tg := 56) dX_count_1 (by constructor <;> omega) (by omega) (by omega) (by rw [hk]; rfl) (by decide) ?_
    refine j_aload_n (p2 := 57) dX_count_56 rfl rfl ?_
    refine j_getR (p2 := 60) dX_count_57 rfl fa_X_47 ly_0 rfl ?_
    refine j_getIk (p2 := 63) dX_count_60 rfl fa_X_234 ly_47 rfl (ki := 0) rfl ?_
    refine j_ireturn dX_count_63 rfl (by subst hk; exact q0 (by decide))
  · refine j_tsw_in (tg := 64) dX_count_1 (by constructor <;> omega) (by omega) (by omega) (by rw [hk]; rfl) (by decide) ?_
    refine j_aload_n (p2 := 65) dX_count_64 rfl rfl ?_
    refine j_getR (p2 := 68) dX_count_65 rfl fa_X_10 ly_0 rfl ?_
    refine j_callV (m' := mP_cords) (As := []) (p2 := 71) dX_count_68 rfl ml_X_274 ok_mP_cords im_mP_cords se_mP_cords rfl rfl (Nat.le_of_ble_eq_true rfl) ly_3 rfl (Nat.le_of_ble_eq_true rfl) ⟨(Nat.le_of_ble_eq_true rfl), (Nat.le_of_ble_eq_true rfl)⟩ ?_
    refine cP_cords ⟨hN, hN2⟩ h9 ?_
    refine j_ireturn dX_count_71 rfl (by subst hk; exact q0 (by decide))
  · refine j_tsw_in (tg := 72) dX_count_1 (by constructor <;> omega) (by omega) (by omega) (by rw [hk]; rfl) (by decide) ?_
    refine j_aload_n (p2 := 73) dX_count_72 rfl rfl ?_
    refine j_getR (p2 := 76) dX_count_73 rfl fa_X_21 ly_0 rfl ?_
    refine j_callV (m' := mV_refresh) (As := []) (p2 := 79) dX_count_76 rfl ml_X_145 ok_mV_refresh im_mV_refresh se_mV_refresh rfl rfl (Nat.le_of_ble_eq_true rfl) ly_15 rfl (Nat.le_of_ble_eq_true rfl) ⟨(Nat.le_of_ble_eq_true rfl), (Nat.le_of_ble_eq_true rfl)⟩ ?_
    refine cV_refresh hc h01 hf (fun τ F f1 f2 f3 hL => ?_)
    have el : ∀ k : Int, 0 ≤ k → k < N → hI τ 16 k = lvC (hI σ 4) fr N k := by rw [← F.I (c := 4) (by decide)]; exact hL.1
    have hb : ∀ k : Int, 0 ≤ k → k < N → -1 ≤ hI τ 16 k ∧ hI τ 16 k ≤ 20 := fun k x y => by rw [el k x y]; have := lvC_b (kd := hI σ 4) hc.cd k x y; omega
    have eg : gmost (hI τ 16) N = gmost (lvC (hI σ 4) fr N) N := gmost_ag N el
    refine j_aload_n (p2 := 80) dX_count_79 rfl rfl ?_
    refine j_getR (p2 := 83) dX_count_80 rfl fa_X_21 ly_0 rfl ?_
    refine j_callV (m' := mV_greatest) (As := []) (p2 := 86) dX_count_83 rfl ml_X_277 ok_mV_greatest im_mV_greatest se_mV_greatest rfl rfl (Nat.le_of_ble_eq_true rfl) ly_15 rfl (Nat.le_of_ble_eq_true rfl) ⟨(Nat.le_of_ble_eq_true rfl), (Nat.le_of_ble_eq_true rfl)⟩ ?_
    refine cV_greatest ⟨by rw [f1 0 (by decide)]; exact hN, hN2⟩ hb ?_
    rw [eg]
    refine j_ireturn dX_count_86 rfl (by exact q3 hk τ ⟨F, f1, f2, f3, hL⟩)
  · refine j_tsw_in (tg := 87) dX_count_1 (by constructor <;> omega) (by omega) (by omega) (by rw [hk]; rfl) (by decide) ?_
    refine j_aload_n (p2 := 88) dX_count_87 rfl rfl ?_
    refine j_getR (p2 := 91) dX_count_88 rfl fa_X_28 ly_0 rfl ?_
    refine j_aload_n (p2 := 92) dX_count_91 rfl rfl ?_
    refine j_getR (p2 := 95) dX_count_92 rfl fa_X_10 ly_0 rfl ?_
    refine j_getIk (p2 := 98) dX_count_95 rfl fa_X_82 ly_3 rfl (ki := 0) rfl ?_
    refine j_callV (m' := mL_lit) (As := [_]) (p2 := 101) dX_count_98 rfl ml_X_280 ok_mL_lit im_mL_lit se_mL_lit rfl rfl (Nat.le_of_ble_eq_true rfl) ly_19 rfl (Nat.le_of_ble_eq_true rfl) ⟨(Nat.le_of_ble_eq_true rfl), (Nat.le_of_ble_eq_true rfl)⟩ ?_
    rw [hN]
    refine cL_lit hN2 hl ?_
    refine j_ireturn dX_count_101 rfl (by subst hk; exact q0 (by decide))
  · refine j_tsw_in (tg := 102) dX_count_1 (by constructor <;> omega) (by omega) (by omega) (by rw [hk]; rfl) (by decide) ?_
    refine j_aload_n (p2 := 103) dX_count_102 rfl rfl ?_
    refine j_getIk (p2 := 106) dX_count_103 rfl fa_X_227 ly_0 rfl (ki := 12) rfl ?_
    refine j_ireturn dX_count_106 rfl (by subst hk; exact q0 (by decide))
  · refine j_tsw_in (tg := 107) dX_count_1 (by constructor <;> omega) (by omega) (by omega) (by rw [hk]; rfl) (by decide) ?_
    refine j_aload_n (p2 := 108) dX_count_107 rfl rfl ?_
    refine j_getR (p2 := 111) dX_count_108 rfl fa_X_10 ly_0 rfl ?_
    refine j_getIk (p2 := 114) dX_count_111 rfl fa_X_128 ly_3 rfl (ki := 1) rfl ?_
    refine j_ireturn dX_count_114 rfl (by subst hk; exact q0 (by decide))
  · refine j_tsw_in (tg := 115) dX_count_1 (by constructor <;> omega) (by omega) (by omega) (by rw [hk]; rfl) (by decide) ?_
    refine j_aload_n (p2 := 116) dX_count_115 rfl rfl ?_
    refine j_getR (p2 := 119) dX_count_116 rfl fa_X_10 ly_0 rfl ?_
    refine j_getIk (p2 := 122) dX_count_119 rfl fa_X_131 ly_3 rfl (ki := 2) rfl ?_
    refine j_ireturn dX_count_122 rfl (by subst hk; exact q0 (by decide))
  · refine j_tsw_out (tg := 123) dX_count_1 (by assumption) hk (by decide) ?_
    refine j_bipush (v := (-102)) (p2 := 125) dX_count_123 rfl rfl ?_
    refine j_ireturn dX_count_125 rfl (by have h := q0 (by omega); rw [if_neg (by omega), if_neg (by omega), if_neg (by omega), if_neg (by omega), if_neg (by omega), if_neg (by omega), if_neg (by omega)] at h; exact h)
end CNT
