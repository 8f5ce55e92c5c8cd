/-! ===== the panel: about, check, mode ===== -/
def abC (σ : Hp) (m w : Int) : Int := if w = 0 then hI σ 4 m else if w < 7 then hI σ 9 (6 * m + w - 1) else if w < 13 then (if hI σ 10 (6 * m + w - 7) = 0 then 0 else 1) else if w = 13 then hI σ 11 m else hI σ 14 m
theorem brB_1 (kd fr np : Int → Int) (N : Nat) : brB kd fr np N 1 = fun m => !hIn kd fr m := by funext m; exact if_pos rfl
theorem brB_2 (kd fr np : Int → Int) (N : Nat) : brB kd fr np N 2 = fun m => decide (kd m = 7) && decide (np m < 2) := by funext m; exact (if_neg (by decide)).trans (if_pos rfl)
theorem brB_3 (kd fr np : Int → Int) (N : Nat) : brB kd fr np N 3 = circ kd fr N := by funext m; exact (if_neg (by decide)).trans (if_neg (by decide))
theorem oI_ne {p : Int → Bool} {N : Nat} {x : Int} (h : fnd p N 0 = some x) : ¬ oI (fnd p N 0) = -1 := by
  have a := fnd_some _ _ _ h
  rw [h]
  show ¬ x = -1
  omega
theorem chk_fbr (kd fr np : Int → Int) (N : Nat) : chk kd fr np N = (if fbr kd fr np N = 0 then 0 else oI (fnd (brB kd fr np N (fbr kd fr np N)) N 0) + 1, fbr kd fr np N) := by
  have hc : chk kd fr np N = cres 1 (fnd (brB kd fr np N 1) N 0) (cres 2 (fnd (brB kd fr np N 2) N 0) (cres 3 (fnd (brB kd fr np N 3) N 0) (0, 0))) := by
    rw [brB_1, brB_2, brB_3]; rfl
  rw [hc]
  cases h1 : fnd (brB kd fr np N 1) N 0 with
  | some x =>
    have e : fbr kd fr np N = 1 := if_neg (oI_ne h1)
    rw [e, if_neg (by decide), h1]
    show (1 + x, (1 : Int)) = (x + 1, 1)
    rw [Int.add_comm]
  | none =>
    have g1 : oI (fnd (brB kd fr np N 1) N 0) = -1 := by rw [h1]; rfl
    cases h2 : fnd (brB kd fr np N 2) N 0 with
    | some x =>
      have e : fbr kd fr np N = 2 := (if_pos g1).trans (if_neg (oI_ne h2))
      rw [e, if_neg (by decide), h2]
      show (1 + x, (2 : Int)) = (x + 1, 2)
      rw [Int.add_comm]
    | none =>
      have g2 : oI (fnd (brB kd fr np N 2) N 0) = -1 := by rw [h2]; rfl
      cases h3 : fnd (brB kd fr np N 3) N 0 with
      | some x =>
        have e : fbr kd fr np N = 3 := (if_pos g1).trans ((if_pos g2).trans (if_neg (oI_ne h3)))
        rw [e, if_neg (by decide), h3]
        show (1 + x, (3 : Int)) = (x + 1, 3)
        rw [Int.add_comm]
      | none =>
        have g3 : oI (fnd (brB kd fr np N 3) N 0) = -1 := by rw [h3]; rfl
        have e : fbr kd fr np N = 0 := (if_pos g1).trans ((if_pos g2).trans (if_pos g3))
        rw [e, if_pos rfl]
        rfl
theorem fbr_b (kd fr np : Int → Int) (N : Nat) : 0 ≤ fbr kd fr np N ∧ fbr kd fr np N ≤ 3 := by
  unfold fbr
  split
  · split
    · split <;> decide
    · decide
  · decide
section PAN8
variable {σ : Hp} {Q : Option PV → Hp → Prop} {N : Nat}
theorem cX_about {m w : Int} (hz : SzC σ) (hm : inR m) (hw : inR w) (ht : ∀ k : Int, 0 ≤ k → k < 120 → inR (hI σ 10 k)) (hQ : Q (some (vI (if cM σ m then (if 0 ≤ w ∧ w ≤ 14 then abC σ m w else -102) else -101))) σ) : Sp mX_about [vR 0, vI m, vI w] σ Q := by
  obtain ⟨z1, z2, z3⟩ := hz
  have k0 : ¬ cM σ m → Q (some (vI (-101))) σ := fun g => by rw [if_neg g] at hQ; exact hQ
  have k1 : cM σ m → 0 ≤ w ∧ w ≤ 14 → Q (some (vI (abC σ m w))) σ := fun a b => by rw [if_pos a, if_pos b] at hQ; exact hQ
  have k2 : cM σ m → ¬ (0 ≤ w ∧ w ≤ 14) → Q (some (vI (-102))) σ := fun a b => by rw [if_pos a, if_neg b] at hQ; exact hQ
  unfold abC at k1
  have e1 : m * 6 + w - 1 = 6 * m + w - 1 := by omega
  have e2 : m * 6 + w - 7 = 6 * m + w - 7 := by omega
  have at14 : cM σ m → J mX_about 14 [(0, vR 0), (1, vI m), (2, vI w)] [] σ Q := fun g => by
    have k1 := k1 g
    have k2 := k2 g
    refine j_iload_n (p2 := 15) dX_about_14 rfl rfl ?_
    refine j_if_lt (p2 := 18) (tg := 24) dX_about_15 rfl (by decide) (by constructor <;> omega) (fun h15 => ?_) (fun h15 => ?_)
    · refine j_bipush (v := (-102)) (p2 := 26) dX_about_24 rfl rfl ?_
      refine j_ireturn dX_about_26 rfl (by first | exact k2 (by omega) | (have k := k1 (by omega); first | (rw [if_pos (by omega)] at k; exact k) | (rw [if_neg (by omega), if_pos (by omega)] at k; rw [e1]; exact k) | (rw [e2] at h87; rw [if_neg (by omega), if_neg (by omega), if_pos (by omega)] at k; first | (rw [if_pos h87] at k; exact k) | (rw [if_neg h87] at k; exact k)) | (rw [if_neg (by omega), if_neg (by omega), if_neg (by omega), if_pos (by omega)] at k; exact k) | (rw [if_neg (by omega), if_neg (by omega), if_neg (by omega), if_neg (by omega)] at k; exact k)))
    · refine j_iload_n (p2 := 19) dX_about_18 rfl rfl ?_
      refine j_bipush (v := 14) (p2 := 21) dX_about_19 rfl rfl ?_
      refine j_icmp_le (p2 := 24) (tg := 27) dX_about_21 rfl (by decide) (by constructor <;> omega) (by constructor <;> omega) (fun h21 => ?_) (fun h21 => ?_)
      · refine j_iload_n (p2 := 28) dX_about_27 rfl rfl ?_
        refine j_if_ne (p2 := 31) (tg := 41) dX_about_28 rfl (by decide) (by constructor <;> omega) (fun h28 => ?_) (fun h28 => ?_)
        · refine j_iload_n (p2 := 42) dX_about_41 rfl rfl ?_
          refine j_bipush (v := 6) (p2 := 44) dX_about_42 rfl rfl ?_
          refine j_icmp_gt (p2 := 47) (tg := 64) dX_about_44 rfl (by decide) (by constructor <;> omega) (by constructor <;> omega) (fun h44 => ?_) (fun h44 => ?_)
          · refine j_iload_n (p2 := 65) dX_about_64 rfl rfl ?_
            refine j_bipush (v := 12) (p2 := 67) dX_about_65 rfl rfl ?_
            refine j_icmp_gt (p2 := 70) (tg := 96) dX_about_67 rfl (by decide) (by constructor <;> omega) (by constructor <;> omega) (fun h67 => ?_) (fun h67 => ?_)
            · refine j_iload_n (p2 := 97) dX_about_96 rfl rfl ?_
              refine j_bipush (v := 13) (p2 := 99) dX_about_97 rfl rfl ?_
              refine j_icmp_ne (p2 := 102) (tg := 114) dX_about_99 rfl (by decide) (by constructor <;> omega) (by constructor <;> omega) (fun h99 => ?_) (fun h99 => ?_)
              · refine j_aload_n (p2 := 115) dX_about_114 rfl rfl ?_
                refine j_getR (p2 := 118) dX_about_115 rfl fa_X_10 ly_0 rfl ?_
                refine j_getR (p2 := 121) dX_about_118 rfl fa_X_176 ly_3 rfl ?_
                refine j_iload_n (p2 := 122) dX_about_121 rfl rfl ?_
                refine j_iald (p2 := 123) dX_about_122 rfl ly_14 (by decide) (by omega) (by omega) ?_
                refine j_ireturn dX_about_123 rfl (by first | exact k2 (by omega) | (have k := k1 (by omega); first | (rw [if_pos (by omega)] at k; exact k) | (rw [if_neg (by omega), if_pos (by omega)] at k; rw [e1]; exact k) | (rw [e2] at h87; rw [if_neg (by omega), if_neg (by omega), if_pos (by omega)] at k; first | (rw [if_pos h87] at k; exact k) | (rw [if_neg h87] at k; exact k)) | (rw [if_neg (by omega), if_neg (by omega), if_neg (by omega), if_pos (by omega)] at k; exact k) | (rw [if_neg (by omega), if_neg (by omega), if_neg (by omega), if_neg (by omega)] at k; exact k)))
              · refine j_aload_n (p2 := 103) dX_about_102 rfl rfl ?_
                refine j_getR (p2 := 106) dX_about_103 rfl fa_X_10 ly_0 rfl ?_
                refine j_getR (p2 := 109) dX_about_106 rfl fa_X_108 ly_3 rfl ?_
                refine j_iload_n (p2 := 110) dX_about_109 rfl rfl ?_
                refine j_iald (p2 := 111) dX_about_110 rfl ly_11 (by decide) (by omega) (by omega) ?_
                refine j_goto (p2 := 123) dX_about_111 (by decide) ?_
                refine j_ireturn dX_about_123 rfl (by first | exact k2 (by omega) | (have k := k1 (by omega); first | (rw [if_pos (by omega)] at k; exact k) | (rw [if_neg (by omega), if_pos (by omega)] at k; rw [e1]; exact k) | (rw [e2] at h87; rw [if_neg (by omega), if_neg (by omega), if_pos (by omega)] at k; first | (rw [if_pos h87] at k; exact k) | (rw [if_neg h87] at k; exact k)) | (rw [if_neg (by omega), if_neg (by omega), if_neg (by omega), if_pos (by omega)] at k; exact k) | (rw [if_neg (by omega), if_neg (by omega), if_neg (by omega), if_neg (by omega)] at k; exact k)))
            · refine j_aload_n (p2 := 71) dX_about_70 rfl rfl ?_
              refine j_getR (p2 := 74) dX_about_71 rfl fa_X_10 ly_0 rfl ?_
              refine j_getR (p2 := 77) dX_about_74 rfl fa_X_270 ly_3 rfl ?_
              refine j_iload_n (p2 := 78) dX_about_77 rfl rfl ?_
              refine j_bipush (v := 6) (p2 := 80) dX_about_78 rfl rfl ?_
              refine j_imul (p2 := 81) dX_about_80 rfl ?_
              refine j_iload_n (p2 := 82) dX_about_81 rfl rfl ?_
              refine j_iadd (p2 := 83) dX_about_82 rfl ?_
              refine j_bipush (v := 7) (p2 := 85) dX_about_83 rfl rfl ?_
              refine j_isub (p2 := 86) dX_about_85 rfl ?_
              refine j_zald (p2 := 87) dX_about_86 rfl ly_10 (by decide) (by omega) (by omega) ?_
              refine j_if_eq (p2 := 90) (tg := 94) dX_about_87 rfl (by decide) (by rw [e2]; exact ht _ (by omega) (by omega)) (fun h87 => ?_) (fun h87 => ?_)
              · refine j_iconst (p2 := 95) dX_about_94 rfl ?_
                refine j_ireturn dX_about_95 rfl (by first | exact k2 (by omega) | (have k := k1 (by omega); first | (rw [if_pos (by omega)] at k; exact k) | (rw [if_neg (by omega), if_pos (by omega)] at k; rw [e1]; exact k) | (rw [e2] at h87; rw [if_neg (by omega), if_neg (by omega), if_pos (by omega)] at k; first | (rw [if_pos h87] at k; exact k) | (rw [if_neg h87] at k; exact k)) | (rw [if_neg (by omega), if_neg (by omega), if_neg (by omega), if_pos (by omega)] at k; exact k) | (rw [if_neg (by omega), if_neg (by omega), if_neg (by omega), if_neg (by omega)] at k; exact k)))
              · refine j_iconst (p2 := 91) dX_about_90 rfl ?_
                refine j_goto (p2 := 95) dX_about_91 (by decide) ?_
                refine j_ireturn dX_about_95 rfl (by first | exact k2 (by omega) | (have k := k1 (by omega); first | (rw [if_pos (by omega)] at k; exact k) | (rw [if_neg (by omega), if_pos (by omega)] at k; rw [e1]; exact k) | (rw [e2] at h87; rw [if_neg (by omega), if_neg (by omega), if_pos (by omega)] at k; first | (rw [if_pos h87] at k; exact k) | (rw [if_neg h87] at k; exact k)) | (rw [if_neg (by omega), if_neg (by omega), if_neg (by omega), if_pos (by omega)] at k; exact k) | (rw [if_neg (by omega), if_neg (by omega), if_neg (by omega), if_neg (by omega)] at k; exact k)))
          · refine j_aload_n (p2 := 48) dX_about_47 rfl rfl ?_
            refine j_getR (p2 := 51) dX_about_48 rfl fa_X_10 ly_0 rfl ?_
            refine j_getR (p2 := 54) dX_about_51 rfl fa_X_267 ly_3 rfl ?_
            refine j_iload_n (p2 := 55) dX_about_54 rfl rfl ?_
            refine j_bipush (v := 6) (p2 := 57) dX_about_55 rfl rfl ?_
            refine j_imul (p2 := 58) dX_about_57 rfl ?_
            refine j_iload_n (p2 := 59) dX_about_58 rfl rfl ?_
            refine j_iadd (p2 := 60) dX_about_59 rfl ?_
            refine j_iconst (p2 := 61) dX_about_60 rfl ?_
            refine j_isub (p2 := 62) dX_about_61 rfl ?_
            refine j_iald (p2 := 63) dX_about_62 rfl ly_9 (by decide) (by omega) (by omega) ?_
            refine j_ireturn dX_about_63 rfl (by first | exact k2 (by omega) | (have k := k1 (by omega); first | (rw [if_pos (by omega)] at k; exact k) | (rw [if_neg (by omega), if_pos (by omega)] at k; rw [e1]; exact k) | (rw [e2] at h87; rw [if_neg (by omega), if_neg (by omega), if_pos (by omega)] at k; first | (rw [if_pos h87] at k; exact k) | (rw [if_neg h87] at k; exact k)) | (rw [if_neg (by omega), if_neg (by omega), if_neg (by omega), if_pos (by omega)] at k; exact k) | (rw [if_neg (by omega), if_neg (by omega), if_neg (by omega), if_neg (by omega)] at k; exact k)))
        · refine j_aload_n (p2 := 32) dX_about_31 rfl rfl ?_
          refine j_getR (p2 := 35) dX_about_32 rfl fa_X_10 ly_0 rfl ?_
          refine j_getR (p2 := 38) dX_about_35 rfl fa_X_97 ly_3 rfl ?_
          refine j_iload_n (p2 := 39) dX_about_38 rfl rfl ?_
          refine j_iald (p2 := 40) dX_about_39 rfl ly_4 (by decide) (by omega) (by omega) ?_
          refine j_ireturn dX_about_40 rfl (by first | exact k2 (by omega) | (have k := k1 (by omega); first | (rw [if_pos (by omega)] at k; exact k) | (rw [if_neg (by omega), if_pos (by omega)] at k; rw [e1]; exact k) | (rw [e2] at h87; rw [if_neg (by omega), if_neg (by omega), if_pos (by omega)] at k; first | (rw [if_pos h87] at k; exact k) | (rw [if_neg h87] at k; exact k)) | (rw [if_neg (by omega), if_neg (by omega), if_neg (by omega), if_pos (by omega)] at k; exact k) | (rw [if_neg (by omega), if_neg (by omega), if_neg (by omega), if_neg (by omega)] at k; exact k)))
      · refine j_bipush (v := (-102)) (p2 := 26) dX_about_24 rfl rfl ?_
        refine j_ireturn dX_about_26 rfl (by first | exact k2 (by omega) | (have k := k1 (by omega); first | (rw [if_pos (by omega)] at k; exact k) | (rw [if_neg (by omega), if_pos (by omega)] at k; rw [e1]; exact k) | (rw [e2] at h87; rw [if_neg (by omega), if_neg (by omega), if_pos (by omega)] at k; first | (rw [if_pos h87] at k; exact k) | (rw [if_neg h87] at k; exact k)) | (rw [if_neg (by omega), if_neg (by omega), if_neg (by omega), if_pos (by omega)] at k; exact k) | (rw [if_neg (by omega), if_neg (by omega), if_neg (by omega), if_neg (by omega)] at k; exact k)))
  refine j_aload_n (p2 := 1) dX_about_0 rfl rfl ?_
  refine j_getR (p2 := 4) dX_about_1 rfl fa_X_10 ly_0 rfl ?_
  refine j_iload_n (p2 := 5) dX_about_4 rfl rfl ?_
  refine j_callV (m' := mP_has) (As := [_]) (p2 := 8) dX_about_5 rfl ml_X_89 ok_mP_has im_mP_has se_mP_has rfl rfl (Nat.le_of_ble_eq_true rfl) ly_3 rfl (Nat.le_of_ble_eq_true rfl) ⟨(Nat.le_of_ble_eq_true rfl), (Nat.le_of_ble_eq_true rfl)⟩ ?_
  refine cP_has hm z1 ?_
  refine j_ifb_ne (p2 := 11) (tg := 14) dX_about_8 rfl (by decide) (fun h8 => ?_) (fun h8 => ?_)
  · refine J.loc (lv' := [(0, _), (1, _), (2, _)]) ⟨rfl, rfl, rfl, trivial⟩ ?_
    exact at14 (dec_t h8)
  · refine j_bipush (v := (-101)) (p2 := 13) dX_about_11 rfl rfl ?_
    refine j_ireturn dX_about_13 rfl (by exact k0 (of_decide_eq_false h8))
theorem CtI.lv {fr : Int → Int} {τ : Hp} (hc : CtI σ fr N) (F : Fq [3, 15, 16, 17, 18] σ τ) (f1 : ∀ k : Int, ¬ k = 3 → hI τ 3 k = hI σ 3 k) : CtI τ fr N := by
  refine ⟨by rw [f1 0 (by decide)]; exact hc.1, hc.2.1, by rw [F.I (c := 4) (by decide)]; exact hc.2.2.1, ?_⟩
  rw [F.I (c := 9) (by decide), F.I (c := 10) (by decide)]
  exact hc.2.2.2
theorem cX_check {fr : Int → Int} (hc : CtI σ fr N) (hp : ∀ m : Int, 0 ≤ m → m < N → inR (hI σ 11 m)) (h01 : hI σ 3 3 = 0 ∨ hI σ 3 3 = 1) (hf : hI σ 3 3 = 0 → LevR σ fr N) (hQ : ∀ τ, Fq [0, 3, 15, 16, 17, 18] σ τ → hI τ 0 = fup (hI σ 0) 11 (chk (hI σ 4) fr (hI σ 11) N).2 → (∀ k : Int, ¬ k = 3 → hI τ 3 k = hI σ 3 k) → hI τ 3 3 = 0 → hD τ 3 = hD σ 3 → LevR τ fr N → Q (some (vI (chk (hI σ 4) fr (hI σ 11) N).1)) τ) : Sp mX_check [vR 0] σ Q := by
  rw [chk_fbr] at hQ
  have hb := fbr_b (hI σ 4) fr (hI σ 11) N
  obtain ⟨B, hB⟩ : ∃ B, B = fbr (hI σ 4) fr (hI σ 11) N := ⟨_, rfl⟩
  rw [← hB] at hQ hb
  have go : ∀ τ, Fq [0, 3, 15, 16, 17, 18] σ τ → hI τ 0 = fup (hI σ 0) 11 B → (∀ k : Int, ¬ k = 3 → hI τ 3 k = hI σ 3 k) → hI τ 3 3 = 0 → hD τ 3 = hD σ 3 → LevR τ fr N → J mX_check 8 [(0, vR 0)] [] τ Q := by
    intro τ F f0 f1 f2 f3 hL
    have hq := hQ τ F f0 f1 f2 f3 hL
    have e4 := F.I (c := 4) (by decide)
    have e11 := F.I (c := 11) (by decide)
    have hc2 : CtI τ fr N := by
      refine ⟨by rw [f1 0 (by decide)]; exact hc.1, hc.2.1, by rw [e4]; exact hc.2.2.1, ?_⟩
      rw [F.I (c := 9) (by decide), F.I (c := 10) (by decide)]
      exact hc.2.2.2
    have hp2 : ∀ m : Int, 0 ≤ m → m < N → inR (hI τ 11 m) := by rw [e11]; exact hp
    have eB : hI τ 0 11 = B := by rw [f0, fup_s]
    refine j_aload_n (p2 := 9) dX_check_8 rfl rfl ?_
    refine j_getIk (p2 := 12) dX_check_9 rfl fa_X_138 ly_0 rfl (ki := 11) rfl ?_
    refine j_if_ne (p2 := 15) (tg := 19) dX_check_12 rfl (by decide) (by rw [eB]; constructor <;> omega) (fun h12 => ?_) (fun h12 => ?_)
    · refine j_aload_n (p2 := 20) dX_check_19 rfl rfl ?_
      refine j_aload_n (p2 := 21) dX_check_20 rfl rfl ?_
      refine j_getIk (p2 := 24) dX_check_21 rfl fa_X_138 ly_0 rfl (ki := 11) rfl ?_
      refine j_callV (m' := mX_leastThatBreaks) (As := [_]) (p2 := 27) dX_check_24 rfl ml_X_141 ok_mX_leastThatBreaks im_mX_leastThatBreaks se_mX_leastThatBreaks rfl rfl (Nat.le_of_ble_eq_true rfl) ly_0 rfl (Nat.le_of_ble_eq_true rfl) ⟨(Nat.le_of_ble_eq_true rfl), (Nat.le_of_ble_eq_true rfl)⟩ ?_
      rw [eB] at h12 ⊢
      refine cX_leastThatBreaks hc2 hp2 (by omega) hL ?_
      rw [e4, e11]
      refine j_iconst (p2 := 28) dX_check_27 rfl ?_
      refine j_iadd (p2 := 29) dX_check_28 rfl ?_
      refine j_ireturn dX_check_29 rfl (by first | (rw [eB] at h12; rw [if_pos h12] at hq; exact hq) | (rw [if_neg h12] at hq; exact hq))
    · refine j_iconst (p2 := 16) dX_check_15 rfl ?_
      refine j_goto (p2 := 29) dX_check_16 (by decide) ?_
      refine j_ireturn dX_check_29 rfl (by first | (rw [eB] at h12; rw [if_pos h12] at hq; exact hq) | (rw [if_neg h12] at hq; exact hq))
  refine j_aload_n (p2 := 1) dX_check_0 rfl rfl ?_
  refine j_aload_n (p2 := 2) dX_check_1 rfl rfl ?_
  refine j_callV (m' := mX_firstBrokenRule) (As := []) (p2 := 5) dX_check_2 rfl ml_X_134 ok_mX_firstBrokenRule im_mX_firstBrokenRule se_mX_firstBrokenRule rfl rfl (Nat.le_of_ble_eq_true rfl) ly_0 rfl (Nat.le_of_ble_eq_true rfl) ⟨(Nat.le_of_ble_eq_true rfl), (Nat.le_of_ble_eq_true rfl)⟩ ?_
  refine cX_firstBrokenRule hc hp h01 hf (fun τ F f1 f2 f3 hL => ?_)
  rw [← hB]
  refine j_putIk (p2 := 8) dX_check_5 rfl fw_X_138 ly_0 rfl (ki := 11) rfl ?_
  refine J.loc (lv' := [(0, _)]) ⟨rfl, trivial⟩ ?_
  exact go _ ((F.weak (by decide)).wI (by decide)) (by show fup (hI τ 0) 11 B = _; rw [F.I (by decide)]) f1 f2 f3 hL
end PAN8
