/-! ===== the panel: patching ===== -/
theorem dec_nn (x : Int64) : vf_n64 (dec x) := by
  unfold dec
  by_cases a : x.toUInt64.toNat % 2 ^ 63 < 2047 * 2 ^ 52
  · rw [if_pos a]; exact vn64.mpr (by omega)
  · rw [if_neg a]
    by_cases b : x.toUInt64.toNat < 2 ^ 63
    · rw [if_pos b]; exact vn64.mpr (by decide)
    · rw [if_neg b]; exact vn64.mpr (by decide)
abbrev inRg (v : UInt64) : Prop := FP.dcmp (szD v) 4609434218613702656 = some .lt ∨ FP.dcmp (szD v) 4609434218613702656 = some .eq
abbrev bhP (σ : Hp) (m : Int) (v : UInt64) : Prop := 0 < hI σ 11 m → FP.dcmp v (hD σ 12 (8 * m + hI σ 11 m - 1)) = some .gt ∧ FP.fcmp (FP.d2f v) (FP.d2f (hD σ 12 (8 * m + hI σ 11 m - 1))) = some .gt
section PAN7
variable {σ : Hp} {Q : Option PV → Hp → Prop} {N : Nat}
/-- a module is added -/
def amH (σ : Hp) (k : Int) (x : Int64) (a : Int → Int) : Hp := wI (wI (wD (wL (wI (wI σ 3 (fup (hI σ 3) 0 (hI σ 3 0 + 1))) 4 (fup (hI σ 4) (hI σ 3 0) k)) 5 (fup (hL σ 5) (hI σ 3 0) x)) 6 (fup (hD σ 6) (hI σ 3 0) (dec x))) 9 a) 3 (fup (fup (hI σ 3) 0 (hI σ 3 0 + 1)) 3 1)
theorem cX_module {k : Int} {x : Int64} (hz : SzC σ) (hk : inR k) (q1 : ¬ ((0 ≤ k ∧ k < 14) ∧ isSet k (dec x) = true) → Q (some (vI (-102))) σ) (q2 : ((0 ≤ k ∧ k < 14) ∧ isSet k (dec x) = true) → ¬ hI σ 0 9 = 0 → Q (some (vI (-103))) σ) (q3 : ((0 ≤ k ∧ k < 14) ∧ isSet k (dec x) = true) → hI σ 0 9 = 0 → ¬ hI σ 3 0 < 20 → Q (some (vI (-104))) σ) (q4 : ((0 ≤ k ∧ k < 14) ∧ isSet k (dec x) = true) → hI σ 0 9 = 0 → hI σ 3 0 < 20 → ∀ a, (∀ j : Int, 0 ≤ j → j < 6 → a (6 * hI σ 3 0 + j) = -1) → (∀ j : Int, 0 ≤ j → j < 6 * hI σ 3 0 → a j = hI σ 9 j) → Q (some (vI (hI σ 3 0))) (amH σ k x a)) : Sp mX_module [vR 0, vI k, vL x] σ Q := by
  obtain ⟨z1, z2, z3⟩ := hz
  refine j_iload_n (p2 := 1) dX_module_0 rfl rfl ?_
  refine j_if_lt (p2 := 4) (tg := 21) dX_module_1 rfl (by decide) (by constructor <;> omega) (fun h1 => ?_) (fun h1 => ?_)
  · refine j_bipush (v := (-102)) (p2 := 23) dX_module_21 rfl rfl ?_
    refine j_ireturn dX_module_23 rfl (by first | exact q4 ⟨by omega, h18⟩ h28 (by omega) a a1 a2 | exact q3 ⟨by omega, h18⟩ h28 (by omega) | exact q2 ⟨by omega, h18⟩ h28 | exact q1 (fun q => by rw [h18] at q; exact absurd q.2 (by decide)) | exact q1 (fun q => by omega))
  · refine j_iload_n (p2 := 5) dX_module_4 rfl rfl ?_
    refine j_bipush (v := 14) (p2 := 7) dX_module_5 rfl rfl ?_
    refine j_icmp_ge (p2 := 10) (tg := 21) dX_module_7 rfl (by decide) (by constructor <;> omega) (by constructor <;> omega) (fun h7 => ?_) (fun h7 => ?_)
    · refine j_bipush (v := (-102)) (p2 := 23) dX_module_21 rfl rfl ?_
      refine j_ireturn dX_module_23 rfl (by first | exact q4 ⟨by omega, h18⟩ h28 (by omega) a a1 a2 | exact q3 ⟨by omega, h18⟩ h28 (by omega) | exact q2 ⟨by omega, h18⟩ h28 | exact q1 (fun q => by rw [h18] at q; exact absurd q.2 (by decide)) | exact q1 (fun q => by omega))
    · refine j_iload_n (p2 := 11) dX_module_10 rfl rfl ?_
      refine j_lload_n (p2 := 12) dX_module_11 rfl rfl ?_
      refine j_callS (m' := mN_decoded) (As := [_]) (p2 := 15) dX_module_12 rfl ml_X_72 ok_mN_decoded sm_mN_decoded rfl rfl (Nat.le_of_ble_eq_true rfl) (Nat.le_of_ble_eq_true rfl) ⟨(Nat.le_of_ble_eq_true rfl), (Nat.le_of_ble_eq_true rfl)⟩ ?_
      refine cN_decoded ?_
      refine j_callS (m' := mP_fits) (As := [_, _]) (p2 := 18) dX_module_15 rfl ml_X_78 ok_mP_fits sm_mP_fits rfl rfl (Nat.le_of_ble_eq_true rfl) (Nat.le_of_ble_eq_true rfl) ⟨(Nat.le_of_ble_eq_true rfl), (Nat.le_of_ble_eq_true rfl)⟩ ?_
      refine cP_fits hk (dec_nn x) ?_
      refine j_ifb_ne (p2 := 21) (tg := 24) dX_module_18 rfl (by decide) (fun h18 => ?_) (fun h18 => ?_)
      · refine j_aload_n (p2 := 25) dX_module_24 rfl rfl ?_
        refine j_getIk (p2 := 28) dX_module_25 rfl fa_X_68 ly_0 rfl (ki := 9) rfl ?_
        refine j_if_eq (p2 := 31) (tg := 34) dX_module_28 rfl (by decide) (by exact z2) (fun h28 => ?_) (fun h28 => ?_)
        · refine j_aload_n (p2 := 35) dX_module_34 rfl rfl ?_
          refine j_getR (p2 := 38) dX_module_35 rfl fa_X_10 ly_0 rfl ?_
          refine j_getIk (p2 := 41) dX_module_38 rfl fa_X_82 ly_3 rfl (ki := 0) rfl ?_
          refine j_bipush (v := 20) (p2 := 43) dX_module_41 rfl rfl ?_
          refine j_icmp_lt (p2 := 46) (tg := 49) dX_module_43 rfl (by decide) (by constructor <;> omega) (by constructor <;> omega) (fun h43 => ?_) (fun h43 => ?_)
          · refine j_aload_n (p2 := 50) dX_module_49 rfl rfl ?_
            refine j_getR (p2 := 53) dX_module_50 rfl fa_X_10 ly_0 rfl ?_
            refine j_iload_n (p2 := 54) dX_module_53 rfl rfl ?_
            refine j_lload_n (p2 := 55) dX_module_54 rfl rfl ?_
            refine j_callV (m' := mP_add) (As := [_, _]) (p2 := 58) dX_module_55 rfl ml_X_85 ok_mP_add im_mP_add se_mP_add rfl rfl (Nat.le_of_ble_eq_true rfl) ly_3 rfl (Nat.le_of_ble_eq_true rfl) ⟨(Nat.le_of_ble_eq_true rfl), (Nat.le_of_ble_eq_true rfl)⟩ ?_
            refine cP_add ⟨by omega, by omega⟩ (fun a a1 a2 => ?_)
            refine j_ireturn dX_module_58 rfl (by first | exact q4 ⟨by omega, h18⟩ h28 (by omega) a a1 a2 | exact q3 ⟨by omega, h18⟩ h28 (by omega) | exact q2 ⟨by omega, h18⟩ h28 | exact q1 (fun q => by rw [h18] at q; exact absurd q.2 (by decide)) | exact q1 (fun q => by omega))
          · refine j_bipush (v := (-104)) (p2 := 48) dX_module_46 rfl rfl ?_
            refine j_ireturn dX_module_48 rfl (by first | exact q4 ⟨by omega, h18⟩ h28 (by omega) a a1 a2 | exact q3 ⟨by omega, h18⟩ h28 (by omega) | exact q2 ⟨by omega, h18⟩ h28 | exact q1 (fun q => by rw [h18] at q; exact absurd q.2 (by decide)) | exact q1 (fun q => by omega))
        · refine j_bipush (v := (-103)) (p2 := 33) dX_module_31 rfl rfl ?_
          refine j_ireturn dX_module_33 rfl (by first | exact q4 ⟨by omega, h18⟩ h28 (by omega) a a1 a2 | exact q3 ⟨by omega, h18⟩ h28 (by omega) | exact q2 ⟨by omega, h18⟩ h28 | exact q1 (fun q => by rw [h18] at q; exact absurd q.2 (by decide)) | exact q1 (fun q => by omega))
      · refine j_bipush (v := (-102)) (p2 := 23) dX_module_21 rfl rfl ?_
        refine j_ireturn dX_module_23 rfl (by first | exact q4 ⟨by omega, h18⟩ h28 (by omega) a a1 a2 | exact q3 ⟨by omega, h18⟩ h28 (by omega) | exact q2 ⟨by omega, h18⟩ h28 | exact q1 (fun q => by rw [h18] at q; exact absurd q.2 (by decide)) | exact q1 (fun q => by omega))
theorem cX_cord {m i o : Int} {b : Bool} (hz : SzC σ) (hm : inR m) (hi : inR i) (ho : inR o) (q1 : ¬ (cM σ m ∧ (o = -1 ∨ cM σ o)) → Q (some (vI (-101))) σ) (q2 : cM σ m → (o = -1 ∨ cM σ o) → ¬ (0 ≤ i ∧ i < 6) → Q (some (vI (-102))) σ) (q3 : cM σ m → (o = -1 ∨ cM σ o) → (0 ≤ i ∧ i < 6) → ¬ hI σ 0 9 = 0 → Q (some (vI (-103))) σ) (q4 : cM σ m → (o = -1 ∨ cM σ o) → (0 ≤ i ∧ i < 6) → hI σ 0 9 = 0 → Q (some (vI 1)) (wI (wI (wI σ 9 (fup (hI σ 9) (m * 6 + i) o)) 10 (fup (hI σ 10) (m * 6 + i) (bI (b && decide (¬ o = -1))))) 3 (fup (hI σ 3) 3 1))) : Sp mX_cord [vR 0, vI m, vI i, vI o, vI (bI b)] σ Q := by
  obtain ⟨z1, z2, z3⟩ := hz
  have at30 : cM σ m → (o = -1 ∨ cM σ o) → J mX_cord 30 [(0, vR 0), (1, vI m), (2, vI i), (3, vI o), (4, vI (bI b))] [] σ Q := fun g1 g2 => by
    refine j_iload_n (p2 := 31) dX_cord_30 rfl rfl ?_
    refine j_if_lt (p2 := 34) (tg := 40) dX_cord_31 rfl (by decide) (by constructor <;> omega) (fun h31 => ?_) (fun h31 => ?_)
    · refine j_bipush (v := (-102)) (p2 := 42) dX_cord_40 rfl rfl ?_
      refine j_ireturn dX_cord_42 rfl (by first | exact q4 g1 g2 (by omega) h47 | exact q3 g1 g2 (by omega) h47 | exact q2 g1 g2 (by omega))
    · refine j_iload_n (p2 := 35) dX_cord_34 rfl rfl ?_
      refine j_bipush (v := 6) (p2 := 37) dX_cord_35 rfl rfl ?_
      refine j_icmp_lt (p2 := 40) (tg := 43) dX_cord_37 rfl (by decide) (by constructor <;> omega) (by constructor <;> omega) (fun h37 => ?_) (fun h37 => ?_)
      · refine j_aload_n (p2 := 44) dX_cord_43 rfl rfl ?_
        refine j_getIk (p2 := 47) dX_cord_44 rfl fa_X_68 ly_0 rfl (ki := 9) rfl ?_
        refine j_if_eq (p2 := 50) (tg := 53) dX_cord_47 rfl (by decide) (by exact z2) (fun h47 => ?_) (fun h47 => ?_)
        · refine j_aload_n (p2 := 54) dX_cord_53 rfl rfl ?_
          refine j_getR (p2 := 57) dX_cord_54 rfl fa_X_10 ly_0 rfl ?_
          refine j_iload_n (p2 := 58) dX_cord_57 rfl rfl ?_
          refine j_iload_n (p2 := 59) dX_cord_58 rfl rfl ?_
          refine j_iload_n (p2 := 60) dX_cord_59 rfl rfl ?_
          refine j_iload (p2 := 62) dX_cord_60 rfl rfl ?_
          refine j_callV (m' := mP_tie) (As := [_, _, _, _]) (p2 := 65) dX_cord_62 rfl ml_X_93 ok_mP_tie im_mP_tie se_mP_tie rfl rfl (Nat.le_of_ble_eq_true rfl) ly_3 rfl (Nat.le_of_ble_eq_true rfl) ⟨(Nat.le_of_ble_eq_true rfl), (Nat.le_of_ble_eq_true rfl)⟩ ?_
          refine cP_tie ⟨by omega, by omega⟩ ⟨by omega, by omega⟩ ho ?_
          refine j_iconst (p2 := 66) dX_cord_65 rfl ?_
          refine j_ireturn dX_cord_66 rfl (by first | exact q4 g1 g2 (by omega) h47 | exact q3 g1 g2 (by omega) h47 | exact q2 g1 g2 (by omega))
        · refine j_bipush (v := (-103)) (p2 := 52) dX_cord_50 rfl rfl ?_
          refine j_ireturn dX_cord_52 rfl (by first | exact q4 g1 g2 (by omega) h47 | exact q3 g1 g2 (by omega) h47 | exact q2 g1 g2 (by omega))
      · refine j_bipush (v := (-102)) (p2 := 42) dX_cord_40 rfl rfl ?_
        refine j_ireturn dX_cord_42 rfl (by first | exact q4 g1 g2 (by omega) h47 | exact q3 g1 g2 (by omega) h47 | exact q2 g1 g2 (by omega))
  refine j_aload_n (p2 := 1) dX_cord_0 rfl rfl ?_
  refine j_getR (p2 := 4) dX_cord_1 rfl fa_X_10 ly_0 rfl ?_
  refine j_iload_n (p2 := 5) dX_cord_4 rfl rfl ?_
  refine j_callV (m' := mP_has) (As := [_]) (p2 := 8) dX_cord_5 rfl ml_X_89 ok_mP_has im_mP_has se_mP_has rfl rfl (Nat.le_of_ble_eq_true rfl) ly_3 rfl (Nat.le_of_ble_eq_true rfl) ⟨(Nat.le_of_ble_eq_true rfl), (Nat.le_of_ble_eq_true rfl)⟩ ?_
  refine cP_has hm z1 ?_
  refine j_ifb_eq (p2 := 11) (tg := 27) dX_cord_8 rfl (by decide) (fun h8 => ?_) (fun h8 => ?_)
  · refine j_bipush (v := (-101)) (p2 := 29) dX_cord_27 rfl rfl ?_
    refine j_ireturn dX_cord_29 rfl (by first | (have g := of_decide_eq_false h8; exact q1 (fun q => g q.1)) | (have g := of_decide_eq_false h24; exact q1 (fun q => by rcases q.2 with w | w; exact h13 w; exact g w)))
  · refine j_iload_n (p2 := 12) dX_cord_11 rfl rfl ?_
    refine j_iconst (p2 := 13) dX_cord_12 rfl ?_
    refine j_icmp_eq (p2 := 16) (tg := 30) dX_cord_13 rfl (by decide) (by constructor <;> omega) (by constructor <;> omega) (fun h13 => ?_) (fun h13 => ?_)
    · refine J.loc (lv' := [(0, _), (1, _), (2, _), (3, _), (4, _)]) ⟨rfl, rfl, rfl, rfl, rfl, trivial⟩ ?_
      first
        | (have g : o = -1 := h13
           exact at30 (dec_t h8) (Or.inl g))
        | exact at30 (dec_t h8) (Or.inr (dec_t h24))
    · refine j_aload_n (p2 := 17) dX_cord_16 rfl rfl ?_
      refine j_getR (p2 := 20) dX_cord_17 rfl fa_X_10 ly_0 rfl ?_
      refine j_iload_n (p2 := 21) dX_cord_20 rfl rfl ?_
      refine j_callV (m' := mP_has) (As := [_]) (p2 := 24) dX_cord_21 rfl ml_X_89 ok_mP_has im_mP_has se_mP_has rfl rfl (Nat.le_of_ble_eq_true rfl) ly_3 rfl (Nat.le_of_ble_eq_true rfl) ⟨(Nat.le_of_ble_eq_true rfl), (Nat.le_of_ble_eq_true rfl)⟩ ?_
      refine cP_has ho z1 ?_
      refine j_ifb_ne (p2 := 27) (tg := 30) dX_cord_24 rfl (by decide) (fun h24 => ?_) (fun h24 => ?_)
      · refine J.loc (lv' := [(0, _), (1, _), (2, _), (3, _), (4, _)]) ⟨rfl, rfl, rfl, rfl, rfl, trivial⟩ ?_
        first
          | (have g : o = -1 := h13
             exact at30 (dec_t h8) (Or.inl g))
          | exact at30 (dec_t h8) (Or.inr (dec_t h24))
      · refine j_bipush (v := (-101)) (p2 := 29) dX_cord_27 rfl rfl ?_
        refine j_ireturn dX_cord_29 rfl (by first | (have g := of_decide_eq_false h8; exact q1 (fun q => g q.1)) | (have g := of_decide_eq_false h24; exact q1 (fun q => by rcases q.2 with w | w; exact h13 w; exact g w)))
theorem cX_point {m : Int} {x y : Int64} (hz : SzC σ) (hm : inR m) (hk : ∀ m : Int, cM σ m → inR (hI σ 4 m) ∧ (0 ≤ hI σ 11 m ∧ hI σ 11 m ≤ 8)) (hx : ∀ k : Int, 0 ≤ k → k < 160 → vf_n64 (hD σ 12 k)) (q1 : ¬ cM σ m → Q (some (vI (-101))) σ) (q2 : cM σ m → ¬ (hI σ 4 m = 7 ∧ inRg (dec x) ∧ inRg (dec y) ∧ bhP σ m (dec x)) → Q (some (vI (-102))) σ) (q3 : cM σ m → (hI σ 4 m = 7 ∧ inRg (dec x) ∧ inRg (dec y) ∧ bhP σ m (dec x)) → ¬ hI σ 0 9 = 0 → Q (some (vI (-103))) σ) (q4 : cM σ m → (hI σ 4 m = 7 ∧ inRg (dec x) ∧ inRg (dec y) ∧ bhP σ m (dec x)) → hI σ 0 9 = 0 → ¬ hI σ 11 m < 8 → Q (some (vI (-104))) σ)
    (q5 : cM σ m → (hI σ 4 m = 7 ∧ inRg (dec x) ∧ inRg (dec y) ∧ bhP σ m (dec x)) → hI σ 0 9 = 0 → hI σ 11 m < 8 → Q (some (vI (hI σ 11 m + 1))) (wI (wD (wD σ 12 (fup (hD σ 12) (8 * m + hI σ 11 m) (dec x))) 13 (fup (hD σ 13) (8 * m + hI σ 11 m) (dec y))) 11 (fup (hI σ 11) m (hI σ 11 m + 1)))) : Sp mX_point [vR 0, vI m, vL x, vL y] σ Q := by
  obtain ⟨z1, z2, z3⟩ := hz
  have at27 : cM σ m → J mX_point 27 [(0, vR 0), (1, vI m), (6, vD (dec x)), (8, vD (dec y))] [] σ Q := fun g => by
    obtain ⟨k1, k2⟩ := hk m g
    have at73 : (hI σ 4 m = 7 ∧ inRg (dec x) ∧ inRg (dec y) ∧ bhP σ m (dec x)) → J mX_point 73 [(0, vR 0), (1, vI m), (6, vD (dec x)), (8, vD (dec y))] [] σ Q := fun w => by
      refine j_aload_n (p2 := 74) dX_point_73 rfl rfl ?_
      refine j_getIk (p2 := 77) dX_point_74 rfl fa_X_68 ly_0 rfl (ki := 9) rfl ?_
      refine j_if_eq (p2 := 80) (tg := 83) dX_point_77 rfl (by decide) (by exact z2) (fun h77 => ?_) (fun h77 => ?_)
      · refine j_aload_n (p2 := 84) dX_point_83 rfl rfl ?_
        refine j_getR (p2 := 87) dX_point_84 rfl fa_X_10 ly_0 rfl ?_
        refine j_getR (p2 := 90) dX_point_87 rfl fa_X_108 ly_3 rfl ?_
        refine j_iload_n (p2 := 91) dX_point_90 rfl rfl ?_
        refine j_iald (p2 := 92) dX_point_91 rfl ly_11 (by decide) (by omega) (by omega) ?_
        refine j_bipush (v := 8) (p2 := 94) dX_point_92 rfl rfl ?_
        refine j_icmp_lt (p2 := 97) (tg := 100) dX_point_94 rfl (by decide) (by constructor <;> omega) (by constructor <;> omega) (fun h94 => ?_) (fun h94 => ?_)
        · refine j_aload_n (p2 := 101) dX_point_100 rfl rfl ?_
          refine j_getR (p2 := 104) dX_point_101 rfl fa_X_10 ly_0 rfl ?_
          refine j_iload_n (p2 := 105) dX_point_104 rfl rfl ?_
          refine j_dload (p2 := 107) dX_point_105 rfl rfl ?_
          refine j_dload (p2 := 109) dX_point_107 rfl rfl ?_
          refine j_callV (m' := mP_addPoint) (As := [_, _, _]) (p2 := 112) dX_point_109 rfl ml_X_111 ok_mP_addPoint im_mP_addPoint se_mP_addPoint rfl rfl (Nat.le_of_ble_eq_true rfl) ly_3 rfl (Nat.le_of_ble_eq_true rfl) ⟨(Nat.le_of_ble_eq_true rfl), (Nat.le_of_ble_eq_true rfl)⟩ ?_
          refine cP_addPoint ⟨by omega, by omega⟩ ⟨by omega, by omega⟩ ?_
          refine j_ireturn dX_point_112 rfl (by first | exact q5 g w h77 (by omega) | exact q4 g w h77 (by omega) | exact q3 g w h77)
        · refine j_bipush (v := (-104)) (p2 := 99) dX_point_97 rfl rfl ?_
          refine j_ireturn dX_point_99 rfl (by first | exact q5 g w h77 (by omega) | exact q4 g w h77 (by omega) | exact q3 g w h77)
      · refine j_bipush (v := (-103)) (p2 := 82) dX_point_80 rfl rfl ?_
        refine j_ireturn dX_point_82 rfl (by first | exact q5 g w h77 (by omega) | exact q4 g w h77 (by omega) | exact q3 g w h77)
    refine j_aload_n (p2 := 28) dX_point_27 rfl rfl ?_
    refine j_getR (p2 := 31) dX_point_28 rfl fa_X_10 ly_0 rfl ?_
    refine j_getR (p2 := 34) dX_point_31 rfl fa_X_97 ly_3 rfl ?_
    refine j_iload_n (p2 := 35) dX_point_34 rfl rfl ?_
    refine j_iald (p2 := 36) dX_point_35 rfl ly_4 (by decide) (by omega) (by omega) ?_
    refine j_bipush (v := 7) (p2 := 38) dX_point_36 rfl rfl ?_
    refine j_icmp_ne (p2 := 41) (tg := 70) dX_point_38 rfl (by decide) (by exact k1) (by constructor <;> omega) (fun h38 => ?_) (fun h38 => ?_)
    · refine j_bipush (v := (-102)) (p2 := 72) dX_point_70 rfl rfl ?_
      refine j_ireturn dX_point_72 rfl (by first | exact q2 g (fun q => h38 q.1) | (have w := of_decide_eq_false h46; exact q2 g (fun q => w q.2.1)) | (have w := of_decide_eq_false h54; exact q2 g (fun q => w q.2.2.1)) | (have w := of_decide_eq_false h67; exact q2 g (fun q => w q.2.2.2)))
    · refine j_dload (p2 := 43) dX_point_41 rfl rfl ?_
      refine j_callS (m' := mN_inRange) (As := [_]) (p2 := 46) dX_point_43 rfl ml_X_101 ok_mN_inRange sm_mN_inRange rfl rfl (Nat.le_of_ble_eq_true rfl) (Nat.le_of_ble_eq_true rfl) ⟨(Nat.le_of_ble_eq_true rfl), (Nat.le_of_ble_eq_true rfl)⟩ ?_
      refine cN_inRange ?_
      refine j_ifb_eq (p2 := 49) (tg := 70) dX_point_46 rfl (by decide) (fun h46 => ?_) (fun h46 => ?_)
      · refine j_bipush (v := (-102)) (p2 := 72) dX_point_70 rfl rfl ?_
        refine j_ireturn dX_point_72 rfl (by first | exact q2 g (fun q => h38 q.1) | (have w := of_decide_eq_false h46; exact q2 g (fun q => w q.2.1)) | (have w := of_decide_eq_false h54; exact q2 g (fun q => w q.2.2.1)) | (have w := of_decide_eq_false h67; exact q2 g (fun q => w q.2.2.2)))
      · refine j_dload (p2 := 51) dX_point_49 rfl rfl ?_
        refine j_callS (m' := mN_inRange) (As := [_]) (p2 := 54) dX_point_51 rfl ml_X_101 ok_mN_inRange sm_mN_inRange rfl rfl (Nat.le_of_ble_eq_true rfl) (Nat.le_of_ble_eq_true rfl) ⟨(Nat.le_of_ble_eq_true rfl), (Nat.le_of_ble_eq_true rfl)⟩ ?_
        refine cN_inRange ?_
        refine j_ifb_eq (p2 := 57) (tg := 70) dX_point_54 rfl (by decide) (fun h54 => ?_) (fun h54 => ?_)
        · refine j_bipush (v := (-102)) (p2 := 72) dX_point_70 rfl rfl ?_
          refine j_ireturn dX_point_72 rfl (by first | exact q2 g (fun q => h38 q.1) | (have w := of_decide_eq_false h46; exact q2 g (fun q => w q.2.1)) | (have w := of_decide_eq_false h54; exact q2 g (fun q => w q.2.2.1)) | (have w := of_decide_eq_false h67; exact q2 g (fun q => w q.2.2.2)))
        · refine j_aload_n (p2 := 58) dX_point_57 rfl rfl ?_
          refine j_getR (p2 := 61) dX_point_58 rfl fa_X_10 ly_0 rfl ?_
          refine j_iload_n (p2 := 62) dX_point_61 rfl rfl ?_
          refine j_dload (p2 := 64) dX_point_62 rfl rfl ?_
          refine j_callV (m' := mP_isBehindPoints) (As := [_, _]) (p2 := 67) dX_point_64 rfl ml_X_105 ok_mP_isBehindPoints im_mP_isBehindPoints se_mP_isBehindPoints rfl rfl (Nat.le_of_ble_eq_true rfl) ly_3 rfl (Nat.le_of_ble_eq_true rfl) ⟨(Nat.le_of_ble_eq_true rfl), (Nat.le_of_ble_eq_true rfl)⟩ ?_
          refine cP_isBehindPoints ⟨by omega, by omega⟩ k2 (dec_nn x) hx ?_
          refine j_ifb_ne (p2 := 70) (tg := 73) dX_point_67 rfl (by decide) (fun h67 => ?_) (fun h67 => ?_)
          · refine J.loc (lv' := [(0, _), (1, _), (6, _), (8, _)]) ⟨rfl, rfl, rfl, rfl, trivial⟩ ?_
            exact at73 ⟨by omega, dec_t h46, dec_t h54, dec_t h67⟩
          · refine j_bipush (v := (-102)) (p2 := 72) dX_point_70 rfl rfl ?_
            refine j_ireturn dX_point_72 rfl (by first | exact q2 g (fun q => h38 q.1) | (have w := of_decide_eq_false h46; exact q2 g (fun q => w q.2.1)) | (have w := of_decide_eq_false h54; exact q2 g (fun q => w q.2.2.1)) | (have w := of_decide_eq_false h67; exact q2 g (fun q => w q.2.2.2)))
  refine j_aload_n (p2 := 1) dX_point_0 rfl rfl ?_
  refine j_getR (p2 := 4) dX_point_1 rfl fa_X_10 ly_0 rfl ?_
  refine j_iload_n (p2 := 5) dX_point_4 rfl rfl ?_
  refine j_callV (m' := mP_has) (As := [_]) (p2 := 8) dX_point_5 rfl ml_X_89 ok_mP_has im_mP_has se_mP_has rfl rfl (Nat.le_of_ble_eq_true rfl) ly_3 rfl (Nat.le_of_ble_eq_true rfl) ⟨(Nat.le_of_ble_eq_true rfl), (Nat.le_of_ble_eq_true rfl)⟩ ?_
  refine cP_has hm z1 ?_
  refine j_ifb_ne (p2 := 11) (tg := 14) dX_point_8 rfl (by decide) (fun h8 => ?_) (fun h8 => ?_)
  · refine j_lload_n (p2 := 15) dX_point_14 rfl rfl ?_
    refine j_callS (m' := mN_decoded) (As := [_]) (p2 := 18) dX_point_15 rfl ml_X_72 ok_mN_decoded sm_mN_decoded rfl rfl (Nat.le_of_ble_eq_true rfl) (Nat.le_of_ble_eq_true rfl) ⟨(Nat.le_of_ble_eq_true rfl), (Nat.le_of_ble_eq_true rfl)⟩ ?_
    refine cN_decoded ?_
    refine j_dstore (p2 := 20) (lv' := [(0, _), (1, _), (4, _), (6, _)]) dX_point_18 rfl (Nat.le_of_ble_eq_true rfl) ⟨rfl, rfl, rfl, rfl, trivial⟩ ?_
    refine j_lload (p2 := 22) dX_point_20 rfl rfl ?_
    refine j_callS (m' := mN_decoded) (As := [_]) (p2 := 25) dX_point_22 rfl ml_X_72 ok_mN_decoded sm_mN_decoded rfl rfl (Nat.le_of_ble_eq_true rfl) (Nat.le_of_ble_eq_true rfl) ⟨(Nat.le_of_ble_eq_true rfl), (Nat.le_of_ble_eq_true rfl)⟩ ?_
    refine cN_decoded ?_
    refine j_dstore (p2 := 27) (lv' := [(0, _), (1, _), (6, _), (8, _)]) dX_point_25 rfl (Nat.le_of_ble_eq_true rfl) ⟨rfl, rfl, rfl, rfl, trivial⟩ ?_
    refine J.loc (lv' := [(0, _), (1, _), (6, _), (8, _)]) ⟨rfl, rfl, rfl, rfl, trivial⟩ ?_
    exact at27 (dec_t h8)
  · refine j_bipush (v := (-101)) (p2 := 13) dX_point_11 rfl rfl ?_
    refine j_ireturn dX_point_13 rfl (by exact q1 (of_decide_eq_false h8))
theorem cX_begin {m : Int} {x : Int64} (hz : SzC σ) (hm : inR m) (hk : ∀ m : Int, cM σ m → inR (hI σ 4 m)) (q1 : ¬ cM σ m → Q (some (vI (-101))) σ) (q2 : cM σ m → ¬ (inRg (dec x) ∧ rem (hI σ 4 m)) → Q (some (vI (-102))) σ) (q3 : cM σ m → (inRg (dec x) ∧ rem (hI σ 4 m)) → ¬ hI σ 0 9 = 0 → Q (some (vI (-103))) σ) (q4 : cM σ m → (inRg (dec x) ∧ rem (hI σ 4 m)) → hI σ 0 9 = 0 → Q (some (vI 1)) (wD (wL σ 7 (fup (hL σ 7) m x)) 8 (fup (hD σ 8) m (dec x)))) : Sp mX_begin [vR 0, vI m, vL x] σ Q := by
  obtain ⟨z1, z2, z3⟩ := hz
  have at14 : cM σ m → J mX_begin 14 [(0, vR 0), (1, vI m), (2, vL x)] [] σ Q := fun g => by
    have k1 := hk m g
    refine j_lload_n (p2 := 15) dX_begin_14 rfl rfl ?_
    refine j_callS (m' := mN_decoded) (As := [_]) (p2 := 18) dX_begin_15 rfl ml_X_72 ok_mN_decoded sm_mN_decoded rfl rfl (Nat.le_of_ble_eq_true rfl) (Nat.le_of_ble_eq_true rfl) ⟨(Nat.le_of_ble_eq_true rfl), (Nat.le_of_ble_eq_true rfl)⟩ ?_
    refine cN_decoded ?_
    refine j_dstore (p2 := 20) (lv' := [(0, _), (1, _), (2, _), (4, _)]) dX_begin_18 rfl (Nat.le_of_ble_eq_true rfl) ⟨rfl, rfl, rfl, rfl, trivial⟩ ?_
    refine j_dload (p2 := 22) dX_begin_20 rfl rfl ?_
    refine j_callS (m' := mN_inRange) (As := [_]) (p2 := 25) dX_begin_22 rfl ml_X_101 ok_mN_inRange sm_mN_inRange rfl rfl (Nat.le_of_ble_eq_true rfl) (Nat.le_of_ble_eq_true rfl) ⟨(Nat.le_of_ble_eq_true rfl), (Nat.le_of_ble_eq_true rfl)⟩ ?_
    refine cN_inRange ?_
    refine j_ifb_eq (p2 := 28) (tg := 43) dX_begin_25 rfl (by decide) (fun h25 => ?_) (fun h25 => ?_)
    · refine j_bipush (v := (-102)) (p2 := 45) dX_begin_43 rfl rfl ?_
      refine j_ireturn dX_begin_45 rfl (by first | exact q4 g ⟨dec_t h25, dec_t h40⟩ h50 | exact q3 g ⟨dec_t h25, dec_t h40⟩ h50 | (have w := of_decide_eq_false h25; exact q2 g (fun q => w q.1)) | (have w := of_decide_eq_false h40; exact q2 g (fun q => w q.2)))
    · refine j_aload_n (p2 := 29) dX_begin_28 rfl rfl ?_
      refine j_getR (p2 := 32) dX_begin_29 rfl fa_X_10 ly_0 rfl ?_
      refine j_getR (p2 := 35) dX_begin_32 rfl fa_X_97 ly_3 rfl ?_
      refine j_iload_n (p2 := 36) dX_begin_35 rfl rfl ?_
      refine j_iald (p2 := 37) dX_begin_36 rfl ly_4 (by decide) (by omega) (by omega) ?_
      refine j_callS (m' := mP_remembers) (As := [_]) (p2 := 40) dX_begin_37 rfl ml_X_115 ok_mP_remembers sm_mP_remembers rfl rfl (Nat.le_of_ble_eq_true rfl) (Nat.le_of_ble_eq_true rfl) ⟨(Nat.le_of_ble_eq_true rfl), (Nat.le_of_ble_eq_true rfl)⟩ ?_
      refine cP_remembers k1 ?_
      refine j_ifb_ne (p2 := 43) (tg := 46) dX_begin_40 rfl (by decide) (fun h40 => ?_) (fun h40 => ?_)
      · refine j_aload_n (p2 := 47) dX_begin_46 rfl rfl ?_
        refine j_getIk (p2 := 50) dX_begin_47 rfl fa_X_68 ly_0 rfl (ki := 9) rfl ?_
        refine j_if_eq (p2 := 53) (tg := 56) dX_begin_50 rfl (by decide) (by exact z2) (fun h50 => ?_) (fun h50 => ?_)
        · refine j_aload_n (p2 := 57) dX_begin_56 rfl rfl ?_
          refine j_getR (p2 := 60) dX_begin_57 rfl fa_X_10 ly_0 rfl ?_
          refine j_getR (p2 := 63) dX_begin_60 rfl fa_X_118 ly_3 rfl ?_
          refine j_iload_n (p2 := 64) dX_begin_63 rfl rfl ?_
          refine j_lload_n (p2 := 65) dX_begin_64 rfl rfl ?_
          refine j_lastk (p2 := 66) dX_begin_65 rfl ly_7 (by decide) (by omega) (by omega) ?_
          refine j_aload_n (p2 := 67) dX_begin_66 rfl rfl ?_
          refine j_getR (p2 := 70) dX_begin_67 rfl fa_X_10 ly_0 rfl ?_
          refine j_getR (p2 := 73) dX_begin_70 rfl fa_X_121 ly_3 rfl ?_
          refine j_iload_n (p2 := 74) dX_begin_73 rfl rfl ?_
          refine j_dload (p2 := 76) dX_begin_74 rfl rfl ?_
          refine j_dastk (p2 := 77) dX_begin_76 rfl ly_8 (by decide) (by omega) (by omega) ?_
          refine j_iconst (p2 := 78) dX_begin_77 rfl ?_
          refine j_ireturn dX_begin_78 rfl (by first | exact q4 g ⟨dec_t h25, dec_t h40⟩ h50 | exact q3 g ⟨dec_t h25, dec_t h40⟩ h50 | (have w := of_decide_eq_false h25; exact q2 g (fun q => w q.1)) | (have w := of_decide_eq_false h40; exact q2 g (fun q => w q.2)))
        · refine j_bipush (v := (-103)) (p2 := 55) dX_begin_53 rfl rfl ?_
          refine j_ireturn dX_begin_55 rfl (by first | exact q4 g ⟨dec_t h25, dec_t h40⟩ h50 | exact q3 g ⟨dec_t h25, dec_t h40⟩ h50 | (have w := of_decide_eq_false h25; exact q2 g (fun q => w q.1)) | (have w := of_decide_eq_false h40; exact q2 g (fun q => w q.2)))
      · refine j_bipush (v := (-102)) (p2 := 45) dX_begin_43 rfl rfl ?_
        refine j_ireturn dX_begin_45 rfl (by first | exact q4 g ⟨dec_t h25, dec_t h40⟩ h50 | exact q3 g ⟨dec_t h25, dec_t h40⟩ h50 | (have w := of_decide_eq_false h25; exact q2 g (fun q => w q.1)) | (have w := of_decide_eq_false h40; exact q2 g (fun q => w q.2)))
  refine j_aload_n (p2 := 1) dX_begin_0 rfl rfl ?_
  refine j_getR (p2 := 4) dX_begin_1 rfl fa_X_10 ly_0 rfl ?_
  refine j_iload_n (p2 := 5) dX_begin_4 rfl rfl ?_
  refine j_callV (m' := mP_has) (As := [_]) (p2 := 8) dX_begin_5 rfl ml_X_89 ok_mP_has im_mP_has se_mP_has rfl rfl (Nat.le_of_ble_eq_true rfl) ly_3 rfl (Nat.le_of_ble_eq_true rfl) ⟨(Nat.le_of_ble_eq_true rfl), (Nat.le_of_ble_eq_true rfl)⟩ ?_
  refine cP_has hm z1 ?_
  refine j_ifb_ne (p2 := 11) (tg := 14) dX_begin_8 rfl (by decide) (fun h8 => ?_) (fun h8 => ?_)
  · refine J.loc (lv' := [(0, _), (1, _), (2, _)]) ⟨rfl, rfl, rfl, trivial⟩ ?_
    exact at14 (dec_t h8)
  · refine j_bipush (v := (-101)) (p2 := 13) dX_begin_11 rfl rfl ?_
    refine j_ireturn dX_begin_13 rfl (by exact q1 (of_decide_eq_false h8))
theorem cX_setting {m : Int} {x : Int64} (hz : SzC σ) (hm : inR m) (hk : ∀ m : Int, cM σ m → inR (hI σ 4 m)) (q1 : ¬ cM σ m → Q (some (vI (-101))) σ) (q2 : cM σ m → ¬ isSet (hI σ 4 m) (dec x) = true → Q (some (vI (-102))) σ) (q3 : cM σ m → isSet (hI σ 4 m) (dec x) = true → ¬ hI σ 0 9 = 0 → Q (some (vI (-103))) σ) (q4 : cM σ m → isSet (hI σ 4 m) (dec x) = true → hI σ 0 9 = 0 → Q (some (vI 1)) (wD (wL σ 5 (fup (hL σ 5) m x)) 6 (fup (hD σ 6) m (dec x)))) : Sp mX_setting [vR 0, vI m, vL x] σ Q := by
  obtain ⟨z1, z2, z3⟩ := hz
  have at14 : cM σ m → J mX_setting 14 [(0, vR 0), (1, vI m), (2, vL x)] [] σ Q := fun g => by
    have k1 := hk m g
    refine j_aload_n (p2 := 15) dX_setting_14 rfl rfl ?_
    refine j_getR (p2 := 18) dX_setting_15 rfl fa_X_10 ly_0 rfl ?_
    refine j_getR (p2 := 21) dX_setting_18 rfl fa_X_97 ly_3 rfl ?_
    refine j_iload_n (p2 := 22) dX_setting_21 rfl rfl ?_
    refine j_iald (p2 := 23) dX_setting_22 rfl ly_4 (by decide) (by omega) (by omega) ?_
    refine j_lload_n (p2 := 24) dX_setting_23 rfl rfl ?_
    refine j_callS (m' := mN_decoded) (As := [_]) (p2 := 27) dX_setting_24 rfl ml_X_72 ok_mN_decoded sm_mN_decoded rfl rfl (Nat.le_of_ble_eq_true rfl) (Nat.le_of_ble_eq_true rfl) ⟨(Nat.le_of_ble_eq_true rfl), (Nat.le_of_ble_eq_true rfl)⟩ ?_
    refine cN_decoded ?_
    refine j_callS (m' := mP_fits) (As := [_, _]) (p2 := 30) dX_setting_27 rfl ml_X_78 ok_mP_fits sm_mP_fits rfl rfl (Nat.le_of_ble_eq_true rfl) (Nat.le_of_ble_eq_true rfl) ⟨(Nat.le_of_ble_eq_true rfl), (Nat.le_of_ble_eq_true rfl)⟩ ?_
    refine cP_fits k1 (dec_nn x) ?_
    refine j_ifb_ne (p2 := 33) (tg := 36) dX_setting_30 rfl (by decide) (fun h30 => ?_) (fun h30 => ?_)
    · refine j_aload_n (p2 := 37) dX_setting_36 rfl rfl ?_
      refine j_getIk (p2 := 40) dX_setting_37 rfl fa_X_68 ly_0 rfl (ki := 9) rfl ?_
      refine j_if_eq (p2 := 43) (tg := 46) dX_setting_40 rfl (by decide) (by exact z2) (fun h40 => ?_) (fun h40 => ?_)
      · refine j_aload_n (p2 := 47) dX_setting_46 rfl rfl ?_
        refine j_getR (p2 := 50) dX_setting_47 rfl fa_X_10 ly_0 rfl ?_
        refine j_iload_n (p2 := 51) dX_setting_50 rfl rfl ?_
        refine j_lload_n (p2 := 52) dX_setting_51 rfl rfl ?_
        refine j_callV (m' := mP_set) (As := [_, _]) (p2 := 55) dX_setting_52 rfl ml_X_124 ok_mP_set im_mP_set se_mP_set rfl rfl (Nat.le_of_ble_eq_true rfl) ly_3 rfl (Nat.le_of_ble_eq_true rfl) ⟨(Nat.le_of_ble_eq_true rfl), (Nat.le_of_ble_eq_true rfl)⟩ ?_
        refine cP_set ⟨by omega, by omega⟩ ?_
        refine j_iconst (p2 := 56) dX_setting_55 rfl ?_
        refine j_ireturn dX_setting_56 rfl (by first | exact q4 g h30 h40 | exact q3 g h30 h40 | exact q2 g (by rw [h30]; decide))
      · refine j_bipush (v := (-103)) (p2 := 45) dX_setting_43 rfl rfl ?_
        refine j_ireturn dX_setting_45 rfl (by first | exact q4 g h30 h40 | exact q3 g h30 h40 | exact q2 g (by rw [h30]; decide))
    · refine j_bipush (v := (-102)) (p2 := 35) dX_setting_33 rfl rfl ?_
      refine j_ireturn dX_setting_35 rfl (by first | exact q4 g h30 h40 | exact q3 g h30 h40 | exact q2 g (by rw [h30]; decide))
  refine j_aload_n (p2 := 1) dX_setting_0 rfl rfl ?_
  refine j_getR (p2 := 4) dX_setting_1 rfl fa_X_10 ly_0 rfl ?_
  refine j_iload_n (p2 := 5) dX_setting_4 rfl rfl ?_
  refine j_callV (m' := mP_has) (As := [_]) (p2 := 8) dX_setting_5 rfl ml_X_89 ok_mP_has im_mP_has se_mP_has rfl rfl (Nat.le_of_ble_eq_true rfl) ly_3 rfl (Nat.le_of_ble_eq_true rfl) ⟨(Nat.le_of_ble_eq_true rfl), (Nat.le_of_ble_eq_true rfl)⟩ ?_
  refine cP_has hm z1 ?_
  refine j_ifb_ne (p2 := 11) (tg := 14) dX_setting_8 rfl (by decide) (fun h8 => ?_) (fun h8 => ?_)
  · refine J.loc (lv' := [(0, _), (1, _), (2, _)]) ⟨rfl, rfl, rfl, trivial⟩ ?_
    exact at14 (dec_t h8)
  · refine j_bipush (v := (-101)) (p2 := 13) dX_setting_11 rfl rfl ?_
    refine j_ireturn dX_setting_13 rfl (by exact q1 (of_decide_eq_false h8))
end PAN7
