/-! ===== inputs and circles, as the reference finds them ===== -/
def cdd (fr : Int → Int) (m i : Int) : Bool := decide (¬ fr (6 * m + i) = -1)
def anyI (fr : Int → Int) (m : Int) : Nat → Bool
  | 0 => false
  | i + 1 => anyI fr m i || cdd fr m i
def hIn (kd fr : Int → Int) (m : Int) : Bool :=
  if kd m = 0 ∨ kd m = 2 then anyI fr m 6
  else if kd m = 1 ∨ kd m = 6 ∨ kd m = 7 ∨ kd m = 10 ∨ kd m = 11 ∨ kd m = 12 then cdd fr m 0
  else if kd m = 9 then cdd fr m 0 && cdd fr m 1 && cdd fr m 2
  else if kd m = 13 then true else cdd fr m 0 && cdd fr m 1
def rcI (fr re : Int → Int) (k : Int) : Nat → Int → Int
  | 0 => re
  | i + 1 => if fr (6 * k + (i : Int)) = -1 then rcI fr re k i else fup (rcI fr re k i) (fr (6 * k + (i : Int))) 1
def rcK (kd fr : Int → Int) (m : Int) (re : Int → Int) (k : Int) : Int → Int := if (k = m ∨ ¬ re k = 0) ∧ ¬ rem (kd k) then rcI fr re k 6 else re
def rcP (kd fr : Int → Int) (m : Int) (re : Int → Int) : Nat → Int → Int
  | 0 => re
  | i + 1 => rcK kd fr m (rcP kd fr m re i) i
def rcT (kd fr : Int → Int) (m : Int) (re : Int → Int) (N : Nat) : Nat → Int → Int
  | 0 => re
  | t + 1 => rcP kd fr m (rcT kd fr m re N t) N
def rcs (kd fr : Int → Int) (m : Int) (re : Int → Int) (N : Nat) : Int → Int := rcT kd fr m (pw re (fun _ => 0) N) N (N + 1)
abbrev B01 (re : Int → Int) (N : Nat) : Prop := ∀ k : Int, 0 ≤ k → k < N → re k = 0 ∨ re k = 1
theorem fup_01 {re : Int → Int} {N : Nat} {x : Int} (h : B01 re N) : B01 (fup re x 1) N := fun k a b => by
  unfold fup
  by_cases e : k = x
  · rw [if_pos e]; exact Or.inr rfl
  · rw [if_neg e]; exact h k a b
theorem rcI_01 {fr re : Int → Int} {N : Nat} {k : Int} (h : B01 re N) : ∀ i : Nat, B01 (rcI fr re k i) N
  | 0 => h
  | i + 1 => by
    show B01 (if _ then _ else _) N
    by_cases e : fr (6 * k + (i : Int)) = -1
    · rw [if_pos e]; exact rcI_01 h i
    · rw [if_neg e]; exact fup_01 (rcI_01 h i)
theorem rcK_01 {kd fr re : Int → Int} {N : Nat} {m k : Int} (h : B01 re N) : B01 (rcK kd fr m re k) N := by
  unfold rcK
  by_cases e : (k = m ∨ ¬ re k = 0) ∧ ¬ rem (kd k)
  · rw [if_pos e]; exact rcI_01 h 6
  · rw [if_neg e]; exact h
theorem rcP_01 {kd fr re : Int → Int} {N : Nat} {m : Int} (h : B01 re N) : ∀ i : Nat, B01 (rcP kd fr m re i) N
  | 0 => h
  | i + 1 => rcK_01 (rcP_01 h i)
theorem rcT_01 {kd fr re : Int → Int} {N : Nat} {m : Int} (h : B01 re N) : ∀ i : Nat, B01 (rcT kd fr m re N i) N
  | 0 => h
  | i + 1 => rcP_01 (rcT_01 h i) N
theorem rc0_01 {re : Int → Int} {N : Nat} : B01 (pw re (fun _ => 0) N) N := fun k a b => Or.inl (pw_lo (f := re) (g := fun _ => 0) a b)
section REF19
variable {σ : Hp} {Q : Option PV → Hp → Prop} {N : Nat}
theorem cM_hasInputs {m : Int} (hm : 0 ≤ m ∧ m < 20) (hk : 0 ≤ hI σ 70 m ∧ hI σ 70 m < 14) (hc : ∀ j : Int, 0 ≤ j → j < 6 → inR (hI σ 72 (6 * m + j))) (hQ : Q (some (vI (bI (hIn (hI σ 70) (hI σ 72) m)))) σ) : Sp mM_hasInputs [vR 69, vI m] σ Q := by
  have loop : Q (some (vI (bI (anyI (hI σ 72) m 6)))) σ → ∀ (n i : Nat), i ≤ 6 → 7 ≤ i + n → J mM_hasInputs 80 [(0, vR 69), (1, vI m), (2, vI (bI (anyI (hI σ 72) m i))), (3, vI i)] [] σ Q := by
    intro hQ n
    induction n with
    | zero => intro i h1 h2; exact absurd h2 (by omega)
    | succ n ih =>
      intro i h1 h2
      have ih2 : i < 6 → ∀ b, (anyI (hI σ 72) m i || cdd (hI σ 72) m i) = b → J mM_hasInputs 80 [(0, vR 69), (1, vI m), (2, vI (bI b)), (3, vI (i + 1))] [] σ Q := fun h b hb => by
        have := ih (i + 1) (by omega) (by omega)
        have e : anyI (hI σ 72) m (i + 1) = b := hb
        rw [e] at this; exact this
      refine j_iload_n (p2 := 81) dM_hasInputs_80 rfl rfl ?_
      refine j_bipush (v := 6) (p2 := 83) dM_hasInputs_81 rfl rfl ?_
      refine j_icmp_ge (p2 := 86) (tg := 111) dM_hasInputs_83 rfl (by decide) (by constructor <;> omega) (by constructor <;> omega) (fun h83 => ?_) (fun h83 => ?_)
      · refine j_iload_n (p2 := 112) dM_hasInputs_111 rfl rfl ?_
        refine j_zreturn dM_hasInputs_112 rfl (by first | exact Or.inl rfl | exact Or.inr rfl | exact bI_or _ | omega) (by have e : i = 6 := (by omega); subst e; exact hQ)
      · refine j_iload_n (p2 := 87) dM_hasInputs_86 rfl rfl ?_
        refine j_ifb_ne (p2 := 90) (tg := 99) dM_hasInputs_87 rfl (by decide) (fun h87 => ?_) (fun h87 => ?_)
        · refine j_iconst (p2 := 100) dM_hasInputs_99 rfl ?_
          refine j_goto (p2 := 104) dM_hasInputs_100 (by decide) ?_
          refine j_istore_n (p2 := 105) (lv' := [(0, _), (1, _), (2, _), (3, _)]) dM_hasInputs_104 rfl (Nat.le_of_ble_eq_true rfl) ⟨rfl, rfl, rfl, rfl, trivial⟩ ?_
          refine j_iinc (p2 := 108) (lv' := [(0, _), (1, _), (2, _), (3, _)]) dM_hasInputs_105 rfl (Nat.le_of_ble_eq_true rfl) rfl ⟨rfl, rfl, rfl, rfl, trivial⟩ ?_
          refine j_goto (p2 := 80) dM_hasInputs_108 (by decide) ?_
          refine J.loc (lv' := [(0, _), (1, _), (2, _), (3, _)]) ⟨rfl, rfl, rfl, rfl, trivial⟩ ?_
          first
            | exact ih2 (by omega) true (by rw [h87]; rfl)
            | exact ih2 (by omega) true (by rw [h87]; exact h96)
            | exact ih2 (by omega) false (by rw [h87]; exact h96)
        · refine j_aload_n (p2 := 91) dM_hasInputs_90 rfl rfl ?_
          refine j_iload_n (p2 := 92) dM_hasInputs_91 rfl rfl ?_
          refine j_iload_n (p2 := 93) dM_hasInputs_92 rfl rfl ?_
          refine j_callV (m' := mM_has) (As := [_, _]) (p2 := 96) dM_hasInputs_93 rfl ml_M_213 ok_mM_has im_mM_has se_mM_has rfl rfl (Nat.le_of_ble_eq_true rfl) ly_69 rfl (Nat.le_of_ble_eq_true rfl) ⟨(Nat.le_of_ble_eq_true rfl), (Nat.le_of_ble_eq_true rfl)⟩ ?_
          refine cM_has hm (by omega) (hc i (by omega) (by omega)) ?_
          refine j_ifb_eq (p2 := 99) (tg := 103) dM_hasInputs_96 rfl (by decide) (fun h96 => ?_) (fun h96 => ?_)
          · refine j_iconst (p2 := 104) dM_hasInputs_103 rfl ?_
            refine j_istore_n (p2 := 105) (lv' := [(0, _), (1, _), (2, _), (3, _)]) dM_hasInputs_104 rfl (Nat.le_of_ble_eq_true rfl) ⟨rfl, rfl, rfl, rfl, trivial⟩ ?_
            refine j_iinc (p2 := 108) (lv' := [(0, _), (1, _), (2, _), (3, _)]) dM_hasInputs_105 rfl (Nat.le_of_ble_eq_true rfl) rfl ⟨rfl, rfl, rfl, rfl, trivial⟩ ?_
            refine j_goto (p2 := 80) dM_hasInputs_108 (by decide) ?_
            refine J.loc (lv' := [(0, _), (1, _), (2, _), (3, _)]) ⟨rfl, rfl, rfl, rfl, trivial⟩ ?_
            first
              | exact ih2 (by omega) true (by rw [h87]; rfl)
              | exact ih2 (by omega) true (by rw [h87]; exact h96)
              | exact ih2 (by omega) false (by rw [h87]; exact h96)
          · refine j_iconst (p2 := 100) dM_hasInputs_99 rfl ?_
            refine j_goto (p2 := 104) dM_hasInputs_100 (by decide) ?_
            refine j_istore_n (p2 := 105) (lv' := [(0, _), (1, _), (2, _), (3, _)]) dM_hasInputs_104 rfl (Nat.le_of_ble_eq_true rfl) ⟨rfl, rfl, rfl, rfl, trivial⟩ ?_
            refine j_iinc (p2 := 108) (lv' := [(0, _), (1, _), (2, _), (3, _)]) dM_hasInputs_105 rfl (Nat.le_of_ble_eq_true rfl) rfl ⟨rfl, rfl, rfl, rfl, trivial⟩ ?_
            refine j_goto (p2 := 80) dM_hasInputs_108 (by decide) ?_
            refine J.loc (lv' := [(0, _), (1, _), (2, _), (3, _)]) ⟨rfl, rfl, rfl, rfl, trivial⟩ ?_
            first
              | exact ih2 (by omega) true (by rw [h87]; rfl)
              | exact ih2 (by omega) true (by rw [h87]; exact h96)
              | exact ih2 (by omega) false (by rw [h87]; exact h96)
  unfold hIn at hQ
  refine j_aload_n (p2 := 1) dM_hasInputs_0 rfl rfl ?_
  refine j_getR (p2 := 4) dM_hasInputs_1 rfl fa_M_7 ly_69 rfl ?_
  refine j_iload_n (p2 := 5) dM_hasInputs_4 rfl rfl ?_
  refine j_iald (p2 := 6) dM_hasInputs_5 rfl ly_70 (by decide) (by omega) (by omega) ?_
  rcases (by omega : hI σ 70 m = 0 ∨ hI σ 70 m = 1 ∨ hI σ 70 m = 2 ∨ hI σ 70 m = 3 ∨ hI σ 70 m = 4 ∨ hI σ 70 m = 5 ∨ hI σ 70 m = 6 ∨ hI σ 70 m = 7 ∨ hI σ 70 m = 8 ∨ hI σ 70 m = 9 ∨ hI σ 70 m = 10 ∨ hI σ 70 m = 11 ∨ hI σ 70 m = 12 ∨ hI σ 70 m = 13 ∨ 13 < hI σ 70 m) with hk | hk | hk | hk | hk | hk | hk | hk | hk | hk | hk | hk | hk | hk | hk
  · refine j_tsw_in (tg := 76) dM_hasInputs_6 (by constructor <;> omega) (by omega) (by omega) (by rw [hk]; rfl) (by decide) ?_
    refine j_iconst (p2 := 77) dM_hasInputs_76 rfl ?_
    refine j_istore_n (p2 := 78) (lv' := [(0, _), (1, _), (2, _)]) dM_hasInputs_77 rfl (Nat.le_of_ble_eq_true rfl) ⟨rfl, rfl, rfl, trivial⟩ ?_
    refine j_iconst (p2 := 79) dM_hasInputs_78 rfl ?_
    refine j_istore_n (p2 := 80) (lv' := [(0, _), (1, _), (2, _), (3, _)]) dM_hasInputs_79 rfl (Nat.le_of_ble_eq_true rfl) ⟨rfl, rfl, rfl, rfl, trivial⟩ ?_
    refine J.loc (lv' := [(0, _), (1, _), (2, _), (3, _)]) ⟨rfl, rfl, rfl, rfl, trivial⟩ ?_
    rw [if_pos (by omega)] at hQ
    exact loop hQ 7 0 (by omega) (by omega)
  · refine j_tsw_in (tg := 113) dM_hasInputs_6 (by constructor <;> omega) (by omega) (by omega) (by rw [hk]; rfl) (by decide) ?_
    refine j_aload_n (p2 := 114) dM_hasInputs_113 rfl rfl ?_
    refine j_iload_n (p2 := 115) dM_hasInputs_114 rfl rfl ?_
    refine j_iconst (p2 := 116) dM_hasInputs_115 rfl ?_
    refine j_callV (m' := mM_has) (As := [_, _]) (p2 := 119) dM_hasInputs_116 rfl ml_M_213 ok_mM_has im_mM_has se_mM_has rfl rfl (Nat.le_of_ble_eq_true rfl) ly_69 rfl (Nat.le_of_ble_eq_true rfl) ⟨(Nat.le_of_ble_eq_true rfl), (Nat.le_of_ble_eq_true rfl)⟩ ?_
    refine cM_has hm (by omega) (hc _ (by omega) (by omega)) ?_
    refine j_zreturn dM_hasInputs_119 rfl (by first | exact Or.inl rfl | exact Or.inr rfl | exact bI_or _ | omega) (by rw [if_neg (by omega), if_pos (by omega)] at hQ; exact hQ)
  · refine j_tsw_in (tg := 76) dM_hasInputs_6 (by constructor <;> omega) (by omega) (by omega) (by rw [hk]; rfl) (by decide) ?_
    refine j_iconst (p2 := 77) dM_hasInputs_76 rfl ?_
    refine j_istore_n (p2 := 78) (lv' := [(0, _), (1, _), (2, _)]) dM_hasInputs_77 rfl (Nat.le_of_ble_eq_true rfl) ⟨rfl, rfl, rfl, trivial⟩ ?_
    refine j_iconst (p2 := 79) dM_hasInputs_78 rfl ?_
    refine j_istore_n (p2 := 80) (lv' := [(0, _), (1, _), (2, _), (3, _)]) dM_hasInputs_79 rfl (Nat.le_of_ble_eq_true rfl) ⟨rfl, rfl, rfl, rfl, trivial⟩ ?_
    refine J.loc (lv' := [(0, _), (1, _), (2, _), (3, _)]) ⟨rfl, rfl, rfl, rfl, trivial⟩ ?_
    rw [if_pos (by omega)] at hQ
    exact loop hQ 7 0 (by omega) (by omega)
  · refine j_tsw_in (tg := 155) dM_hasInputs_6 (by constructor <;> omega) (by omega) (by omega) (by rw [hk]; rfl) (by decide) ?_
    refine j_aload_n (p2 := 156) dM_hasInputs_155 rfl rfl ?_
    refine j_iload_n (p2 := 157) dM_hasInputs_156 rfl rfl ?_
    refine j_iconst (p2 := 158) dM_hasInputs_157 rfl ?_
    refine j_callV (m' := mM_has) (As := [_, _]) (p2 := 161) dM_hasInputs_158 rfl ml_M_213 ok_mM_has im_mM_has se_mM_has rfl rfl (Nat.le_of_ble_eq_true rfl) ly_69 rfl (Nat.le_of_ble_eq_true rfl) ⟨(Nat.le_of_ble_eq_true rfl), (Nat.le_of_ble_eq_true rfl)⟩ ?_
    refine cM_has hm (by omega) (hc _ (by omega) (by omega)) ?_
    refine j_ifb_eq (p2 := 164) (tg := 177) dM_hasInputs_161 rfl (by decide) (fun h161 => ?_) (fun h161 => ?_)
    · refine j_iconst (p2 := 178) dM_hasInputs_177 rfl ?_
      refine j_zreturn dM_hasInputs_178 rfl (by first | exact Or.inl rfl | exact Or.inr rfl | exact bI_or _ | omega) (by rw [if_neg (by omega), if_neg (by omega), if_neg (by omega), if_neg (by omega)] at hQ; unfold cdd at hQ; first | (rw [h161, h170] at hQ; exact hQ) | (rw [h161] at hQ; exact hQ))
    · refine j_aload_n (p2 := 165) dM_hasInputs_164 rfl rfl ?_
      refine j_iload_n (p2 := 166) dM_hasInputs_165 rfl rfl ?_
      refine j_iconst (p2 := 167) dM_hasInputs_166 rfl ?_
      refine j_callV (m' := mM_has) (As := [_, _]) (p2 := 170) dM_hasInputs_167 rfl ml_M_213 ok_mM_has im_mM_has se_mM_has rfl rfl (Nat.le_of_ble_eq_true rfl) ly_69 rfl (Nat.le_of_ble_eq_true rfl) ⟨(Nat.le_of_ble_eq_true rfl), (Nat.le_of_ble_eq_true rfl)⟩ ?_
      refine cM_has hm (by omega) (hc _ (by omega) (by omega)) ?_
      refine j_ifb_eq (p2 := 173) (tg := 177) dM_hasInputs_170 rfl (by decide) (fun h170 => ?_) (fun h170 => ?_)
      · refine j_iconst (p2 := 178) dM_hasInputs_177 rfl ?_
        refine j_zreturn dM_hasInputs_178 rfl (by first | exact Or.inl rfl | exact Or.inr rfl | exact bI_or _ | omega) (by rw [if_neg (by omega), if_neg (by omega), if_neg (by omega), if_neg (by omega)] at hQ; unfold cdd at hQ; first | (rw [h161, h170] at hQ; exact hQ) | (rw [h161] at hQ; exact hQ))
      · refine j_iconst (p2 := 174) dM_hasInputs_173 rfl ?_
        refine j_goto (p2 := 178) dM_hasInputs_174 (by decide) ?_
        refine j_zreturn dM_hasInputs_178 rfl (by first | exact Or.inl rfl | exact Or.inr rfl | exact bI_or _ | omega) (by rw [if_neg (by omega), if_neg (by omega), if_neg (by omega), if_neg (by omega)] at hQ; unfold cdd at hQ; first | (rw [h161, h170] at hQ; exact hQ) | (rw [h161] at hQ; exact hQ))
  · refine j_tsw_in (tg := 155) dM_hasInputs_6 (by constructor <;> omega) (by omega) (by omega) (by rw [hk]; rfl) (by decide) ?_
    refine j_aload_n (p2 := 156) dM_hasInputs_155 rfl rfl ?_
    refine j_iload_n (p2 := 157) dM_hasInputs_156 rfl rfl ?_
    refine j_iconst (p2 := 158) dM_hasInputs_157 rfl ?_
    refine j_callV (m' := mM_has) (As := [_, _]) (p2 := 161) dM_hasInputs_158 rfl ml_M_213 ok_mM_has im_mM_has se_mM_has rfl rfl (Nat.le_of_ble_eq_true rfl) ly_69 rfl (Nat.le_of_ble_eq_true rfl) ⟨(Nat.le_of_ble_eq_true rfl), (Nat.le_of_ble_eq_true rfl)⟩ ?_
    refine cM_has hm (by omega) (hc _ (by omega) (by omega)) ?_
    refine j_ifb_eq (p2 := 164) (tg := 177) dM_hasInputs_161 rfl (by decide) (fun h161 => ?_) (fun h161 => ?_)
    · refine j_iconst (p2 := 178) dM_hasInputs_177 rfl ?_
      refine j_zreturn dM_hasInputs_178 rfl (by first | exact Or.inl rfl | exact Or.inr rfl | exact bI_or _ | omega) (by rw [if_neg (by omega), if_neg (by omega), if_neg (by omega), if_neg (by omega)] at hQ; unfold cdd at hQ; first | (rw [h161, h170] at hQ; exact hQ) | (rw [h161] at hQ; exact hQ))
    · refine j_aload_n (p2 := 165) dM_hasInputs_164 rfl rfl ?_
      refine j_iload_n (p2 := 166) dM_hasInputs_165 rfl rfl ?_
      refine j_iconst (p2 := 167) dM_hasInputs_166 rfl ?_
      refine j_callV (m' := mM_has) (As := [_, _]) (p2 := 170) dM_hasInputs_167 rfl ml_M_213 ok_mM_has im_mM_has se_mM_has rfl rfl (Nat.le_of_ble_eq_true rfl) ly_69 rfl (Nat.le_of_ble_eq_true rfl) ⟨(Nat.le_of_ble_eq_true rfl), (Nat.le_of_ble_eq_true rfl)⟩ ?_
      refine cM_has hm (by omega) (hc _ (by omega) (by omega)) ?_
      refine j_ifb_eq (p2 := 173) (tg := 177) dM_hasInputs_170 rfl (by decide) (fun h170 => ?_) (fun h170 => ?_)
      · refine j_iconst (p2 := 178) dM_hasInputs_177 rfl ?_
        refine j_zreturn dM_hasInputs_178 rfl (by first | exact Or.inl rfl | exact Or.inr rfl | exact bI_or _ | omega) (by rw [if_neg (by omega), if_neg (by omega), if_neg (by omega), if_neg (by omega)] at hQ; unfold cdd at hQ; first | (rw [h161, h170] at hQ; exact hQ) | (rw [h161] at hQ; exact hQ))
      · refine j_iconst (p2 := 174) dM_hasInputs_173 rfl ?_
        refine j_goto (p2 := 178) dM_hasInputs_174 (by decide) ?_
        refine j_zreturn dM_hasInputs_178 rfl (by first | exact Or.inl rfl | exact Or.inr rfl | exact bI_or _ | omega) (by rw [if_neg (by omega), if_neg (by omega), if_neg (by omega), if_neg (by omega)] at hQ; unfold cdd at hQ; first | (rw [h161, h170] at hQ; exact hQ) | (rw [h161] at hQ; exact hQ))
  · refine j_tsw_in (tg := 155) dM_hasInputs_6 (by constructor <;> omega) (by omega) (by omega) (by rw [hk]; rfl) (by decide) ?_
    refine j_aload_n (p2 := 156) dM_hasInputs_155 rfl rfl ?_
    refine j_iload_n (p2 := 157) dM_hasInputs_156 rfl rfl ?_
    refine j_iconst (p2 := 158) dM_hasInputs_157 rfl ?_
    refine j_callV (m' := mM_has) (As := [_, _]) (p2 := 161) dM_hasInputs_158 rfl ml_M_213 ok_mM_has im_mM_has se_mM_has rfl rfl (Nat.le_of_ble_eq_true rfl) ly_69 rfl (Nat.le_of_ble_eq_true rfl) ⟨(Nat.le_of_ble_eq_true rfl), (Nat.le_of_ble_eq_true rfl)⟩ ?_
    refine cM_has hm (by omega) (hc _ (by omega) (by omega)) ?_
    refine j_ifb_eq (p2 := 164) (tg := 177) dM_hasInputs_161 rfl (by decide) (fun h161 => ?_) (fun h161 => ?_)
    · refine j_iconst (p2 := 178) dM_hasInputs_177 rfl ?_
      refine j_zreturn dM_hasInputs_178 rfl (by first | exact Or.inl rfl | exact Or.inr rfl | exact bI_or _ | omega) (by rw [if_neg (by omega), if_neg (by omega), if_neg (by omega), if_neg (by omega)] at hQ; unfold cdd at hQ; first | (rw [h161, h170] at hQ; exact hQ) | (rw [h161] at hQ; exact hQ))
    · refine j_aload_n (p2 := 165) dM_hasInputs_164 rfl rfl ?_
      refine j_iload_n (p2 := 166) dM_hasInputs_165 rfl rfl ?_
      refine j_iconst (p2 := 167) dM_hasInputs_166 rfl ?_
      refine j_callV (m' := mM_has) (As := [_, _]) (p2 := 170) dM_hasInputs_167 rfl ml_M_213 ok_mM_has im_mM_has se_mM_has rfl rfl (Nat.le_of_ble_eq_true rfl) ly_69 rfl (Nat.le_of_ble_eq_true rfl) ⟨(Nat.le_of_ble_eq_true rfl), (Nat.le_of_ble_eq_true rfl)⟩ ?_
      refine cM_has hm (by omega) (hc _ (by omega) (by omega)) ?_
      refine j_ifb_eq (p2 := 173) (tg := 177) dM_hasInputs_170 rfl (by decide) (fun h170 => ?_) (fun h170 => ?_)
      · refine j_iconst (p2 := 178) dM_hasInputs_177 rfl ?_
        refine j_zreturn dM_hasInputs_178 rfl (by first | exact Or.inl rfl | exact Or.inr rfl | exact bI_or _ | omega) (by rw [if_neg (by omega), if_neg (by omega), if_neg (by omega), if_neg (by omega)] at hQ; unfold cdd at hQ; first | (rw [h161, h170] at hQ; exact hQ) | (rw [h161] at hQ; exact hQ))
      · refine j_iconst (p2 := 174) dM_hasInputs_173 rfl ?_
        refine j_goto (p2 := 178) dM_hasInputs_174 (by decide) ?_
        refine j_zreturn dM_hasInputs_178 rfl (by first | exact Or.inl rfl | exact Or.inr rfl | exact bI_or _ | omega) (by rw [if_neg (by omega), if_neg (by omega), if_neg (by omega), if_neg (by omega)] at hQ; unfold cdd at hQ; first | (rw [h161, h170] at hQ; exact hQ) | (rw [h161] at hQ; exact hQ))
  · refine j_tsw_in (tg := 113) dM_hasInputs_6 (by constructor <;> omega) (by omega) (by omega) (by rw [hk]; rfl) (by decide) ?_
    refine j_aload_n (p2 := 114) dM_hasInputs_113 rfl rfl ?_
    refine j_iload_n (p2 := 115) dM_hasInputs_114 rfl rfl ?_
    refine j_iconst (p2 := 116) dM_hasInputs_115 rfl ?_
    refine j_callV (m' := mM_has) (As := [_, _]) (p2 := 119) dM_hasInputs_116 rfl ml_M_213 ok_mM_has im_mM_has se_mM_has rfl rfl (Nat.le_of_ble_eq_true rfl) ly_69 rfl (Nat.le_of_ble_eq_true rfl) ⟨(Nat.le_of_ble_eq_true rfl), (Nat.le_of_ble_eq_true rfl)⟩ ?_
    refine cM_has hm (by omega) (hc _ (by omega) (by omega)) ?_
    refine j_zreturn dM_hasInputs_119 rfl (by first | exact Or.inl rfl | exact Or.inr rfl | exact bI_or _ | omega) (by rw [if_neg (by omega), if_pos (by omega)] at hQ; exact hQ)
  · refine j_tsw_in (tg := 113) dM_hasInputs_6 (by constructor <;> omega) (by omega) (by omega) (by rw [hk]; rfl) (by decide) ?_
    refine j_aload_n (p2 := 114) dM_hasInputs_113 rfl rfl ?_
    refine j_iload_n (p2 := 115) dM_hasInputs_114 rfl rfl ?_
    refine j_iconst (p2 := 116) dM_hasInputs_115 rfl ?_
    refine j_callV (m' := mM_has) (As := [_, _]) (p2 := 119) dM_hasInputs_116 rfl ml_M_213 ok_mM_has im_mM_has se_mM_has rfl rfl (Nat.le_of_ble_eq_true rfl) ly_69 rfl (Nat.le_of_ble_eq_true rfl) ⟨(Nat.le_of_ble_eq_true rfl), (Nat.le_of_ble_eq_true rfl)⟩ ?_
    refine cM_has hm (by omega) (hc _ (by omega) (by omega)) ?_
    refine j_zreturn dM_hasInputs_119 rfl (by first | exact Or.inl rfl | exact Or.inr rfl | exact bI_or _ | omega) (by rw [if_neg (by omega), if_pos (by omega)] at hQ; exact hQ)
  · refine j_tsw_in (tg := 155) dM_hasInputs_6 (by constructor <;> omega) (by omega) (by omega) (by rw [hk]; rfl) (by decide) ?_
    refine j_aload_n (p2 := 156) dM_hasInputs_155 rfl rfl ?_
    refine j_iload_n (p2 := 157) dM_hasInputs_156 rfl rfl ?_
    refine j_iconst (p2 := 158) dM_hasInputs_157 rfl ?_
    refine j_callV (m' := mM_has) (As := [_, _]) (p2 := 161) dM_hasInputs_158 rfl ml_M_213 ok_mM_has im_mM_has se_mM_has rfl rfl (Nat.le_of_ble_eq_true rfl) ly_69 rfl (Nat.le_of_ble_eq_true rfl) ⟨(Nat.le_of_ble_eq_true rfl), (Nat.le_of_ble_eq_true rfl)⟩ ?_
    refine cM_has hm (by omega) (hc _ (by omega) (by omega)) ?_
    refine j_ifb_eq (p2 := 164) (tg := 177) dM_hasInputs_161 rfl (by decide) (fun h161 => ?_) (fun h161 => ?_)
    · refine j_iconst (p2 := 178) dM_hasInputs_177 rfl ?_
      refine j_zreturn dM_hasInputs_178 rfl (by first | exact Or.inl rfl | exact Or.inr rfl | exact bI_or _ | omega) (by rw [if_neg (by omega), if_neg (by omega), if_neg (by omega), if_neg (by omega)] at hQ; unfold cdd at hQ; first | (rw [h161, h170] at hQ; exact hQ) | (rw [h161] at hQ; exact hQ))
    · refine j_aload_n (p2 := 165) dM_hasInputs_164 rfl rfl ?_
      refine j_iload_n (p2 := 166) dM_hasInputs_165 rfl rfl ?_
      refine j_iconst (p2 := 167) dM_hasInputs_166 rfl ?_
      refine j_callV (m' := mM_has) (As := [_, _]) (p2 := 170) dM_hasInputs_167 rfl ml_M_213 ok_mM_has im_mM_has se_mM_has rfl rfl (Nat.le_of_ble_eq_true rfl) ly_69 rfl (Nat.le_of_ble_eq_true rfl) ⟨(Nat.le_of_ble_eq_true rfl), (Nat.le_of_ble_eq_true rfl)⟩ ?_
      refine cM_has hm (by omega) (hc _ (by omega) (by omega)) ?_
      refine j_ifb_eq (p2 := 173) (tg := 177) dM_hasInputs_170 rfl (by decide) (fun h170 => ?_) (fun h170 => ?_)
      · refine j_iconst (p2 := 178) dM_hasInputs_177 rfl ?_
        refine j_zreturn dM_hasInputs_178 rfl (by first | exact Or.inl rfl | exact Or.inr rfl | exact bI_or _ | omega) (by rw [if_neg (by omega), if_neg (by omega), if_neg (by omega), if_neg (by omega)] at hQ; unfold cdd at hQ; first | (rw [h161, h170] at hQ; exact hQ) | (rw [h161] at hQ; exact hQ))
      · refine j_iconst (p2 := 174) dM_hasInputs_173 rfl ?_
        refine j_goto (p2 := 178) dM_hasInputs_174 (by decide) ?_
        refine j_zreturn dM_hasInputs_178 rfl (by first | exact Or.inl rfl | exact Or.inr rfl | exact bI_or _ | omega) (by rw [if_neg (by omega), if_neg (by omega), if_neg (by omega), if_neg (by omega)] at hQ; unfold cdd at hQ; first | (rw [h161, h170] at hQ; exact hQ) | (rw [h161] at hQ; exact hQ))
  · refine j_tsw_in (tg := 120) dM_hasInputs_6 (by constructor <;> omega) (by omega) (by omega) (by rw [hk]; rfl) (by decide) ?_
    refine j_aload_n (p2 := 121) dM_hasInputs_120 rfl rfl ?_
    refine j_iload_n (p2 := 122) dM_hasInputs_121 rfl rfl ?_
    refine j_iconst (p2 := 123) dM_hasInputs_122 rfl ?_
    refine j_callV (m' := mM_has) (As := [_, _]) (p2 := 126) dM_hasInputs_123 rfl ml_M_213 ok_mM_has im_mM_has se_mM_has rfl rfl (Nat.le_of_ble_eq_true rfl) ly_69 rfl (Nat.le_of_ble_eq_true rfl) ⟨(Nat.le_of_ble_eq_true rfl), (Nat.le_of_ble_eq_true rfl)⟩ ?_
    refine cM_has hm (by omega) (hc _ (by omega) (by omega)) ?_
    refine j_ifb_eq (p2 := 129) (tg := 151) dM_hasInputs_126 rfl (by decide) (fun h126 => ?_) (fun h126 => ?_)
    · refine j_iconst (p2 := 152) dM_hasInputs_151 rfl ?_
      refine j_zreturn dM_hasInputs_152 rfl (by first | exact Or.inl rfl | exact Or.inr rfl | exact bI_or _ | omega) (by rw [if_neg (by omega), if_neg (by omega), if_pos (by omega)] at hQ; unfold cdd at hQ; first | (rw [h126, h135, h144] at hQ; exact hQ) | (rw [h126, h135] at hQ; exact hQ) | (rw [h126] at hQ; exact hQ))
    · refine j_aload_n (p2 := 130) dM_hasInputs_129 rfl rfl ?_
      refine j_iload_n (p2 := 131) dM_hasInputs_130 rfl rfl ?_
      refine j_iconst (p2 := 132) dM_hasInputs_131 rfl ?_
      refine j_callV (m' := mM_has) (As := [_, _]) (p2 := 135) dM_hasInputs_132 rfl ml_M_213 ok_mM_has im_mM_has se_mM_has rfl rfl (Nat.le_of_ble_eq_true rfl) ly_69 rfl (Nat.le_of_ble_eq_true rfl) ⟨(Nat.le_of_ble_eq_true rfl), (Nat.le_of_ble_eq_true rfl)⟩ ?_
      refine cM_has hm (by omega) (hc _ (by omega) (by omega)) ?_
      refine j_ifb_eq (p2 := 138) (tg := 151) dM_hasInputs_135 rfl (by decide) (fun h135 => ?_) (fun h135 => ?_)
      · refine j_iconst (p2 := 152) dM_hasInputs_151 rfl ?_
        refine j_zreturn dM_hasInputs_152 rfl (by first | exact Or.inl rfl | exact Or.inr rfl | exact bI_or _ | omega) (by rw [if_neg (by omega), if_neg (by omega), if_pos (by omega)] at hQ; unfold cdd at hQ; first | (rw [h126, h135, h144] at hQ; exact hQ) | (rw [h126, h135] at hQ; exact hQ) | (rw [h126] at hQ; exact hQ))
      · refine j_aload_n (p2 := 139) dM_hasInputs_138 rfl rfl ?_
        refine j_iload_n (p2 := 140) dM_hasInputs_139 rfl rfl ?_
        refine j_iconst (p2 := 141) dM_hasInputs_140 rfl ?_
        refine j_callV (m' := mM_has) (As := [_, _]) (p2 := 144) dM_hasInputs_141 rfl ml_M_213 ok_mM_has im_mM_has se_mM_has rfl rfl (Nat.le_of_ble_eq_true rfl) ly_69 rfl (Nat.le_of_ble_eq_true rfl) ⟨(Nat.le_of_ble_eq_true rfl), (Nat.le_of_ble_eq_true rfl)⟩ ?_
        refine cM_has hm (by omega) (hc _ (by omega) (by omega)) ?_
        refine j_ifb_eq (p2 := 147) (tg := 151) dM_hasInputs_144 rfl (by decide) (fun h144 => ?_) (fun h144 => ?_)
        · refine j_iconst (p2 := 152) dM_hasInputs_151 rfl ?_
          refine j_zreturn dM_hasInputs_152 rfl (by first | exact Or.inl rfl | exact Or.inr rfl | exact bI_or _ | omega) (by rw [if_neg (by omega), if_neg (by omega), if_pos (by omega)] at hQ; unfold cdd at hQ; first | (rw [h126, h135, h144] at hQ; exact hQ) | (rw [h126, h135] at hQ; exact hQ) | (rw [h126] at hQ; exact hQ))
        · refine j_iconst (p2 := 148) dM_hasInputs_147 rfl ?_
          refine j_goto (p2 := 152) dM_hasInputs_148 (by decide) ?_
          refine j_zreturn dM_hasInputs_152 rfl (by first | exact Or.inl rfl | exact Or.inr rfl | exact bI_or _ | omega) (by rw [if_neg (by omega), if_neg (by omega), if_pos (by omega)] at hQ; unfold cdd at hQ; first | (rw [h126, h135, h144] at hQ; exact hQ) | (rw [h126, h135] at hQ; exact hQ) | (rw [h126] at hQ; exact hQ))
  · refine j_tsw_in (tg := 113) dM_hasInputs_6 (by constructor <;> omega) (by omega) (by omega) (by rw [hk]; rfl) (by decide) ?_
    refine j_aload_n (p2 := 114) dM_hasInputs_113 rfl rfl ?_
    refine j_iload_n (p2 := 115) dM_hasInputs_114 rfl rfl ?_
    refine j_iconst (p2 := 116) dM_hasInputs_115 rfl ?_
    refine j_callV (m' := mM_has) (As := [_, _]) (p2 := 119) dM_hasInputs_116 rfl ml_M_213 ok_mM_has im_mM_has se_mM_has rfl rfl (Nat.le_of_ble_eq_true rfl) ly_69 rfl (Nat.le_of_ble_eq_true rfl) ⟨(Nat.le_of_ble_eq_true rfl), (Nat.le_of_ble_eq_true rfl)⟩ ?_
    refine cM_has hm (by omega) (hc _ (by omega) (by omega)) ?_
    refine j_zreturn dM_hasInputs_119 rfl (by first | exact Or.inl rfl | exact Or.inr rfl | exact bI_or _ | omega) (by rw [if_neg (by omega), if_pos (by omega)] at hQ; exact hQ)
  · refine j_tsw_in (tg := 113) dM_hasInputs_6 (by constructor <;> omega) (by omega) (by omega) (by rw [hk]; rfl) (by decide) ?_
    refine j_aload_n (p2 := 114) dM_hasInputs_113 rfl rfl ?_
    refine j_iload_n (p2 := 115) dM_hasInputs_114 rfl rfl ?_
    refine j_iconst (p2 := 116) dM_hasInputs_115 rfl ?_
    refine j_callV (m' := mM_has) (As := [_, _]) (p2 := 119) dM_hasInputs_116 rfl ml_M_213 ok_mM_has im_mM_has se_mM_has rfl rfl (Nat.le_of_ble_eq_true rfl) ly_69 rfl (Nat.le_of_ble_eq_true rfl) ⟨(Nat.le_of_ble_eq_true rfl), (Nat.le_of_ble_eq_true rfl)⟩ ?_
    refine cM_has hm (by omega) (hc _ (by omega) (by omega)) ?_
    refine j_zreturn dM_hasInputs_119 rfl (by first | exact Or.inl rfl | exact Or.inr rfl | exact bI_or _ | omega) (by rw [if_neg (by omega), if_pos (by omega)] at hQ; exact hQ)
  · refine j_tsw_in (tg := 113) dM_hasInputs_6 (by constructor <;> omega) (by omega) (by omega) (by rw [hk]; rfl) (by decide) ?_
    refine j_aload_n (p2 := 114) dM_hasInputs_113 rfl rfl ?_
    refine j_iload_n (p2 := 115) dM_hasInputs_114 rfl rfl ?_
    refine j_iconst (p2 := 116) dM_hasInputs_115 rfl ?_
    refine j_callV (m' := mM_has) (As := [_, _]) (p2 := 119) dM_hasInputs_116 rfl ml_M_213 ok_mM_has im_mM_has se_mM_has rfl rfl (Nat.le_of_ble_eq_true rfl) ly_69 rfl (Nat.le_of_ble_eq_true rfl) ⟨(Nat.le_of_ble_eq_true rfl), (Nat.le_of_ble_eq_true rfl)⟩ ?_
    refine cM_has hm (by omega) (hc _ (by omega) (by omega)) ?_
    refine j_zreturn dM_hasInputs_119 rfl (by first | exact Or.inl rfl | exact Or.inr rfl | exact bI_or _ | omega) (by rw [if_neg (by omega), if_pos (by omega)] at hQ; exact hQ)
  · refine j_tsw_in (tg := 153) dM_hasInputs_6 (by constructor <;> omega) (by omega) (by omega) (by rw [hk]; rfl) (by decide) ?_
    refine j_iconst (p2 := 154) dM_hasInputs_153 rfl ?_
    refine j_zreturn dM_hasInputs_154 rfl (by first | exact Or.inl rfl | exact Or.inr rfl | exact bI_or _ | omega) (by rw [if_neg (by omega), if_neg (by omega), if_neg (by omega), if_pos (by omega)] at hQ; exact hQ)
  · refine j_tsw_out (tg := 155) dM_hasInputs_6 (by constructor <;> omega) (by omega) (by decide) ?_
    refine j_aload_n (p2 := 156) dM_hasInputs_155 rfl rfl ?_
    refine j_iload_n (p2 := 157) dM_hasInputs_156 rfl rfl ?_
    refine j_iconst (p2 := 158) dM_hasInputs_157 rfl ?_
    refine j_callV (m' := mM_has) (As := [_, _]) (p2 := 161) dM_hasInputs_158 rfl ml_M_213 ok_mM_has im_mM_has se_mM_has rfl rfl (Nat.le_of_ble_eq_true rfl) ly_69 rfl (Nat.le_of_ble_eq_true rfl) ⟨(Nat.le_of_ble_eq_true rfl), (Nat.le_of_ble_eq_true rfl)⟩ ?_
    refine cM_has hm (by omega) (hc _ (by omega) (by omega)) ?_
    refine j_ifb_eq (p2 := 164) (tg := 177) dM_hasInputs_161 rfl (by decide) (fun h161 => ?_) (fun h161 => ?_)
    · refine j_iconst (p2 := 178) dM_hasInputs_177 rfl ?_
      refine j_zreturn dM_hasInputs_178 rfl (by first | exact Or.inl rfl | exact Or.inr rfl | exact bI_or _ | omega) (by rw [if_neg (by omega), if_neg (by omega), if_neg (by omega), if_neg (by omega)] at hQ; unfold cdd at hQ; first | (rw [h161, h170] at hQ; exact hQ) | (rw [h161] at hQ; exact hQ))
    · refine j_aload_n (p2 := 165) dM_hasInputs_164 rfl rfl ?_
      refine j_iload_n (p2 := 166) dM_hasInputs_165 rfl rfl ?_
      refine j_iconst (p2 := 167) dM_hasInputs_166 rfl ?_
      refine j_callV (m' := mM_has) (As := [_, _]) (p2 := 170) dM_hasInputs_167 rfl ml_M_213 ok_mM_has im_mM_has se_mM_has rfl rfl (Nat.le_of_ble_eq_true rfl) ly_69 rfl (Nat.le_of_ble_eq_true rfl) ⟨(Nat.le_of_ble_eq_true rfl), (Nat.le_of_ble_eq_true rfl)⟩ ?_
      refine cM_has hm (by omega) (hc _ (by omega) (by omega)) ?_
      refine j_ifb_eq (p2 := 173) (tg := 177) dM_hasInputs_170 rfl (by decide) (fun h170 => ?_) (fun h170 => ?_)
      · refine j_iconst (p2 := 178) dM_hasInputs_177 rfl ?_
        refine j_zreturn dM_hasInputs_178 rfl (by first | exact Or.inl rfl | exact Or.inr rfl | exact bI_or _ | omega) (by rw [if_neg (by omega), if_neg (by omega), if_neg (by omega), if_neg (by omega)] at hQ; unfold cdd at hQ; first | (rw [h161, h170] at hQ; exact hQ) | (rw [h161] at hQ; exact hQ))
      · refine j_iconst (p2 := 174) dM_hasInputs_173 rfl ?_
        refine j_goto (p2 := 178) dM_hasInputs_174 (by decide) ?_
        refine j_zreturn dM_hasInputs_178 rfl (by first | exact Or.inl rfl | exact Or.inr rfl | exact bI_or _ | omega) (by rw [if_neg (by omega), if_neg (by omega), if_neg (by omega), if_neg (by omega)] at hQ; unfold cdd at hQ; first | (rw [h161, h170] at hQ; exact hQ) | (rw [h161] at hQ; exact hQ))
theorem rc_in {re : Int → Int} {m k t : Int} (hN2 : N ≤ 20) (hc : CdN (hI σ 72) N) (hk : 0 ≤ k ∧ k < N) (kk : J mM_isInCircle 127 [(0, vR 69), (1, vI m), (2, vI t), (3, vI k)] [] (wI σ 104 (rcI (hI σ 72) re k 6)) Q) : J mM_isInCircle 83 [(0, vR 69), (1, vI m), (2, vI t), (3, vI k)] [] (wI σ 104 re) Q := by
  have loop : ∀ (n i : Nat), i ≤ 6 → 7 ≤ i + n → J mM_isInCircle 86 [(0, vR 69), (1, vI m), (2, vI t), (3, vI k), (4, vI i)] [] (wI σ 104 (rcI (hI σ 72) re k i)) Q := by
    intro n
    induction n with
    | zero => intro i h1 h2; exact absurd h2 (by omega)
    | succ n ih =>
      intro i h1 h2
      have ci : i < 6 → -1 ≤ hI σ 72 (6 * k + i) ∧ hI σ 72 (6 * k + i) < N := fun h => hc k hk.1 hk.2 i (by omega) (by omega)
      have eC : hI (wI σ 104 (rcI (hI σ 72) re k i)) 72 = hI σ 72 := rfl
      have ih2 : i < 6 → J mM_isInCircle 86 [(0, vR 69), (1, vI m), (2, vI t), (3, vI k), (4, vI (i + 1))] [] (wI σ 104 (if hI σ 72 (6 * k + (i : Int)) = -1 then rcI (hI σ 72) re k i else fup (rcI (hI σ 72) re k i) (hI σ 72 (6 * k + (i : Int))) 1)) Q := fun h => ih (i + 1) (by omega) (by omega)
      refine j_iload (p2 := 88) dM_isInCircle_86 rfl rfl ?_
      refine j_bipush (v := 6) (p2 := 90) dM_isInCircle_88 rfl rfl ?_
      refine j_icmp_ge (p2 := 93) (tg := 127) dM_isInCircle_90 rfl (by decide) (by constructor <;> omega) (by constructor <;> omega) (fun h90 => ?_) (fun h90 => ?_)
      · refine J.loc (lv' := [(0, _), (1, _), (2, _), (3, _)]) ⟨rfl, rfl, rfl, rfl, trivial⟩ ?_
        have e : i = 6 := by omega
        subst e
        exact kk
      · refine j_aload_n (p2 := 94) dM_isInCircle_93 rfl rfl ?_
        refine j_iload_n (p2 := 95) dM_isInCircle_94 rfl rfl ?_
        refine j_iload (p2 := 97) dM_isInCircle_95 rfl rfl ?_
        refine j_callV (m' := mM_has) (As := [_, _]) (p2 := 100) dM_isInCircle_97 rfl ml_M_213 ok_mM_has im_mM_has se_mM_has rfl rfl (Nat.le_of_ble_eq_true rfl) ly_69 rfl (Nat.le_of_ble_eq_true rfl) ⟨(Nat.le_of_ble_eq_true rfl), (Nat.le_of_ble_eq_true rfl)⟩ ?_
        refine cM_has (by omega) (by omega) (by have a := ci (by omega); rw [eC]; constructor <;> omega) ?_
        refine j_ifb_eq (p2 := 103) (tg := 121) dM_isInCircle_100 rfl (by decide) (fun h100 => ?_) (fun h100 => ?_)
        · refine j_iinc (p2 := 124) (lv' := [(0, _), (1, _), (2, _), (3, _), (4, _)]) dM_isInCircle_121 rfl (Nat.le_of_ble_eq_true rfl) rfl ⟨rfl, rfl, rfl, rfl, rfl, trivial⟩ ?_
          refine j_goto (p2 := 86) dM_isInCircle_124 (by decide) ?_
          refine J.loc (lv' := [(0, _), (1, _), (2, _), (3, _), (4, _)]) ⟨rfl, rfl, rfl, rfl, rfl, trivial⟩ ?_
          have ih3 := ih2 (by omega)
          rw [eC] at h100
          first
            | (rw [if_pos (dec_f h100)] at ih3; exact ih3)
            | (rw [if_neg (dec_t h100)] at ih3
               rw [wI_wI]
               exact ih3)
        · refine j_aload_n (p2 := 104) dM_isInCircle_103 rfl rfl ?_
          refine j_getR (p2 := 107) dM_isInCircle_104 rfl fa_M_119 ly_69 rfl ?_
          refine j_aload_n (p2 := 108) dM_isInCircle_107 rfl rfl ?_
          refine j_getR (p2 := 111) dM_isInCircle_108 rfl fa_M_17 ly_69 rfl ?_
          refine j_bipush (v := 6) (p2 := 113) dM_isInCircle_111 rfl rfl ?_
          refine j_iload_n (p2 := 114) dM_isInCircle_113 rfl rfl ?_
          refine j_imul (p2 := 115) dM_isInCircle_114 rfl ?_
          refine j_iload (p2 := 117) dM_isInCircle_115 rfl rfl ?_
          refine j_iadd (p2 := 118) dM_isInCircle_117 rfl ?_
          refine j_iald (p2 := 119) dM_isInCircle_118 rfl ly_72 (by decide) (by omega) (by omega) ?_
          refine j_iconst (p2 := 120) dM_isInCircle_119 rfl ?_
          refine j_zastk (p2 := 121) dM_isInCircle_120 rfl ly_104 (by decide) (by have a := ci (by omega); have b := dec_t h100; rw [eC] at b ⊢; omega) (by have a := ci (by omega); rw [eC]; omega) (Or.inr rfl) ?_
          refine j_iinc (p2 := 124) (lv' := [(0, _), (1, _), (2, _), (3, _), (4, _)]) dM_isInCircle_121 rfl (Nat.le_of_ble_eq_true rfl) rfl ⟨rfl, rfl, rfl, rfl, rfl, trivial⟩ ?_
          refine j_goto (p2 := 86) dM_isInCircle_124 (by decide) ?_
          refine J.loc (lv' := [(0, _), (1, _), (2, _), (3, _), (4, _)]) ⟨rfl, rfl, rfl, rfl, rfl, trivial⟩ ?_
          have ih3 := ih2 (by omega)
          rw [eC] at h100
          first
            | (rw [if_pos (dec_f h100)] at ih3; exact ih3)
            | (rw [if_neg (dec_t h100)] at ih3
               rw [wI_wI]
               exact ih3)
  refine j_iconst (p2 := 84) dM_isInCircle_83 rfl ?_
  refine j_istore (p2 := 86) (lv' := [(0, _), (1, _), (2, _), (3, _), (4, _)]) dM_isInCircle_84 rfl (Nat.le_of_ble_eq_true rfl) ⟨rfl, rfl, rfl, rfl, rfl, trivial⟩ ?_
  refine J.loc (lv' := [(0, _), (1, _), (2, _), (3, _), (4, _)]) ⟨rfl, rfl, rfl, rfl, rfl, trivial⟩ ?_
  exact loop 7 0 (by omega) (by omega)
theorem cM_isInCircle {m : Int} (hN : hI σ 69 0 = N ∧ N ≤ 20) (hm : 0 ≤ m ∧ m < N) (hc : CdN (hI σ 72) N) (hk : ∀ m : Int, 0 ≤ m → m < N → inR (hI σ 70 m))
    (hQ0 : rem (hI σ 70 m) → Q (some (vI 0)) σ) (hQ1 : ¬ rem (hI σ 70 m) → Q (some (vI (rcs (hI σ 70) (hI σ 72) m (hI σ 104) N m))) (wI σ 104 (rcs (hI σ 70) (hI σ 72) m (hI σ 104) N))) : Sp mM_isInCircle [vR 69, vI m] σ Q := by
  obtain ⟨hN, hN2⟩ := hN
  have inner : ∀ (t : Nat) (re : Int → Int), B01 re N → (t : Int) ≤ 20 → (J mM_isInCircle 39 [(0, vR 69), (1, vI m), (2, vI (t + 1))] [] (wI σ 104 (rcP (hI σ 70) (hI σ 72) m re N)) Q) → ∀ (n i : Nat), i ≤ N → N + 1 ≤ i + n → J mM_isInCircle 49 [(0, vR 69), (1, vI m), (2, vI t), (3, vI i)] [] (wI σ 104 (rcP (hI σ 70) (hI σ 72) m re i)) Q := by
    intro t re hre ht kk n
    induction n with
    | zero => intro i h1 h2; exact absurd h2 (by omega)
    | succ n ih =>
      intro i h1 h2
      have hb := rcP_01 (kd := hI σ 70) (fr := hI σ 72) (m := m) hre i
      have hbi : i < N → rcP (hI σ 70) (hI σ 72) m re i i = 0 ∨ rcP (hI σ 70) (hI σ 72) m re i i = 1 := fun h => hb i (by omega) (by omega)
      have eN : hI (wI σ 104 (rcP (hI σ 70) (hI σ 72) m re i)) 69 0 = N := hN
      have eR : hI (wI σ 104 (rcP (hI σ 70) (hI σ 72) m re i)) 104 = rcP (hI σ 70) (hI σ 72) m re i := rfl
      have ih2 : i < N → J mM_isInCircle 49 [(0, vR 69), (1, vI m), (2, vI t), (3, vI (i + 1))] [] (wI σ 104 (rcK (hI σ 70) (hI σ 72) m (rcP (hI σ 70) (hI σ 72) m re i) i)) Q := fun h => ih (i + 1) (by omega) (by omega)
      have no : i < N → ¬ (((i : Int) = m ∨ ¬ rcP (hI σ 70) (hI σ 72) m re i i = 0) ∧ ¬ rem (hI σ 70 i)) → J mM_isInCircle 49 [(0, vR 69), (1, vI m), (2, vI t), (3, vI (i + 1))] [] (wI σ 104 (rcP (hI σ 70) (hI σ 72) m re i)) Q := fun h g => by
        have := ih2 h
        unfold rcK at this
        rw [if_neg g] at this; exact this
      have yes : i < N → (((i : Int) = m ∨ ¬ rcP (hI σ 70) (hI σ 72) m re i i = 0) ∧ ¬ rem (hI σ 70 i)) → J mM_isInCircle 49 [(0, vR 69), (1, vI m), (2, vI t), (3, vI (i + 1))] [] (wI σ 104 (rcI (hI σ 72) (rcP (hI σ 70) (hI σ 72) m re i) i 6)) Q := fun h g => by
        have := ih2 h
        unfold rcK at this
        rw [if_pos g] at this; exact this
      have at71 : i < N → ((i : Int) = m ∨ ¬ rcP (hI σ 70) (hI σ 72) m re i i = 0) → J mM_isInCircle 71 [(0, vR 69), (1, vI m), (2, vI t), (3, vI i)] [] (wI σ 104 (rcP (hI σ 70) (hI σ 72) m re i)) Q := by
        intro hi hg
        refine j_aload_n (p2 := 72) dM_isInCircle_71 rfl rfl ?_
        refine j_getR (p2 := 75) dM_isInCircle_72 rfl fa_M_7 ly_69 rfl ?_
        refine j_iload_n (p2 := 76) dM_isInCircle_75 rfl rfl ?_
        refine j_iald (p2 := 77) dM_isInCircle_76 rfl ly_70 (by decide) (by omega) (by omega) ?_
        refine j_callS (m' := mM_remembers) (As := [_]) (p2 := 80) dM_isInCircle_77 rfl ml_M_207 ok_mM_remembers sm_mM_remembers rfl rfl (Nat.le_of_ble_eq_true rfl) (Nat.le_of_ble_eq_true rfl) ⟨(Nat.le_of_ble_eq_true rfl), (Nat.le_of_ble_eq_true rfl)⟩ ?_
        refine cM_remembers (hk i (by omega) (by omega)) ?_
        refine j_ifb_ne (p2 := 83) (tg := 127) dM_isInCircle_80 rfl (by decide) (fun h80 => ?_) (fun h80 => ?_)
        · refine j_iinc (p2 := 130) (lv' := [(0, _), (1, _), (2, _), (3, _)]) dM_isInCircle_127 rfl (Nat.le_of_ble_eq_true rfl) rfl ⟨rfl, rfl, rfl, rfl, trivial⟩ ?_
          refine j_goto (p2 := 49) dM_isInCircle_130 (by decide) ?_
          refine J.loc (lv' := [(0, _), (1, _), (2, _), (3, _)]) ⟨rfl, rfl, rfl, rfl, trivial⟩ ?_
          exact no hi (fun q => q.2 (dec_t h80))
        · refine J.loc (lv' := [(0, _), (1, _), (2, _), (3, _)]) ⟨rfl, rfl, rfl, rfl, trivial⟩ ?_
          refine rc_in hN2 hc (by omega) ?_
          refine j_iinc (p2 := 130) (lv' := [(0, _), (1, _), (2, _), (3, _)]) dM_isInCircle_127 rfl (Nat.le_of_ble_eq_true rfl) rfl ⟨rfl, rfl, rfl, rfl, trivial⟩ ?_
          refine j_goto (p2 := 49) dM_isInCircle_130 (by decide) ?_
          refine J.loc (lv' := [(0, _), (1, _), (2, _), (3, _)]) ⟨rfl, rfl, rfl, rfl, trivial⟩ ?_
          exact yes hi ⟨hg, of_decide_eq_false h80⟩
      refine j_iload_n (p2 := 50) dM_isInCircle_49 rfl rfl ?_
      refine j_aload_n (p2 := 51) dM_isInCircle_50 rfl rfl ?_
      refine j_getIk (p2 := 54) dM_isInCircle_51 rfl fa_M_158 ly_69 rfl (ki := 0) rfl ?_
      refine j_icmp_ge (p2 := 57) (tg := 133) dM_isInCircle_54 rfl (by decide) (by constructor <;> omega) (by rw [eN]; constructor <;> omega) (fun h54 => ?_) (fun h54 => ?_)
      · refine j_iinc (p2 := 136) (lv' := [(0, _), (1, _), (2, _)]) dM_isInCircle_133 rfl (Nat.le_of_ble_eq_true rfl) rfl ⟨rfl, rfl, rfl, trivial⟩ ?_
        refine j_goto (p2 := 39) dM_isInCircle_136 (by decide) ?_
        refine J.loc (lv' := [(0, _), (1, _), (2, _)]) ⟨rfl, rfl, rfl, trivial⟩ ?_
        rw [eN] at h54
        have e : i = N := by omega
        subst e
        exact kk
      · refine j_iload_n (p2 := 58) dM_isInCircle_57 rfl rfl ?_
        refine j_iload_n (p2 := 59) dM_isInCircle_58 rfl rfl ?_
        refine j_icmp_eq (p2 := 62) (tg := 71) dM_isInCircle_59 rfl (by decide) (by constructor <;> omega) (by constructor <;> omega) (fun h59 => ?_) (fun h59 => ?_)
        · refine J.loc (lv' := [(0, _), (1, _), (2, _), (3, _)]) ⟨rfl, rfl, rfl, rfl, trivial⟩ ?_
          rw [eN] at h54
          first
            | exact at71 (by omega) (Or.inl (by omega))
            | (rw [eR] at h68
               exact at71 (by omega) (Or.inr h68))
        · refine j_aload_n (p2 := 63) dM_isInCircle_62 rfl rfl ?_
          refine j_getR (p2 := 66) dM_isInCircle_63 rfl fa_M_119 ly_69 rfl ?_
          refine j_iload_n (p2 := 67) dM_isInCircle_66 rfl rfl ?_
          refine j_zald (p2 := 68) dM_isInCircle_67 rfl ly_104 (by decide) (by omega) (by rw [eN] at h54; omega) ?_
          refine j_if_eq (p2 := 71) (tg := 127) dM_isInCircle_68 rfl (by decide) (by rw [eN] at h54; rw [eR]; have := hbi (by omega); constructor <;> omega) (fun h68 => ?_) (fun h68 => ?_)
          · refine j_iinc (p2 := 130) (lv' := [(0, _), (1, _), (2, _), (3, _)]) dM_isInCircle_127 rfl (Nat.le_of_ble_eq_true rfl) rfl ⟨rfl, rfl, rfl, rfl, trivial⟩ ?_
            refine j_goto (p2 := 49) dM_isInCircle_130 (by decide) ?_
            refine J.loc (lv' := [(0, _), (1, _), (2, _), (3, _)]) ⟨rfl, rfl, rfl, rfl, trivial⟩ ?_
            rw [eN] at h54
            rw [eR] at h68
            exact no (by omega) (fun q => by rcases q.1 with c | c <;> omega)
          · refine J.loc (lv' := [(0, _), (1, _), (2, _), (3, _)]) ⟨rfl, rfl, rfl, rfl, trivial⟩ ?_
            rw [eN] at h54
            first
              | exact at71 (by omega) (Or.inl (by omega))
              | (rw [eR] at h68
                 exact at71 (by omega) (Or.inr h68))
  have fin : ¬ rem (hI σ 70 m) → J mM_isInCircle 139 [(0, vR 69), (1, vI m)] [] (wI σ 104 (rcT (hI σ 70) (hI σ 72) m (pw (hI σ 104) (fun _ => 0) N) N (N + 1))) Q := by
    intro hr
    have hb := rcT_01 (kd := hI σ 70) (fr := hI σ 72) (m := m) (rc0_01 (re := hI σ 104)) (N + 1) m hm.1 hm.2
    refine j_aload_n (p2 := 140) dM_isInCircle_139 rfl rfl ?_
    refine j_getR (p2 := 143) dM_isInCircle_140 rfl fa_M_119 ly_69 rfl ?_
    refine j_iload_n (p2 := 144) dM_isInCircle_143 rfl rfl ?_
    refine j_zald (p2 := 145) dM_isInCircle_144 rfl ly_104 (by decide) (by omega) (by omega) ?_
    refine j_zreturn dM_isInCircle_145 rfl (by exact hb) (by exact hQ1 hr)
  have outer : ¬ rem (hI σ 70 m) → ∀ (n t : Nat), t ≤ N + 1 → N + 2 ≤ t + n → J mM_isInCircle 39 [(0, vR 69), (1, vI m), (2, vI t)] [] (wI σ 104 (rcT (hI σ 70) (hI σ 72) m (pw (hI σ 104) (fun _ => 0) N) N t)) Q := by
    intro hr n
    induction n with
    | zero => intro i h1 h2; exact absurd h2 (by omega)
    | succ n ih =>
      intro t h1 h2
      have eN : hI (wI σ 104 (rcT (hI σ 70) (hI σ 72) m (pw (hI σ 104) (fun _ => 0) N) N t)) 69 0 = N := hN
      refine j_iload_n (p2 := 40) dM_isInCircle_39 rfl rfl ?_
      refine j_aload_n (p2 := 41) dM_isInCircle_40 rfl rfl ?_
      refine j_getIk (p2 := 44) dM_isInCircle_41 rfl fa_M_158 ly_69 rfl (ki := 0) rfl ?_
      refine j_icmp_gt (p2 := 47) (tg := 139) dM_isInCircle_44 rfl (by decide) (by constructor <;> omega) (by rw [eN]; constructor <;> omega) (fun h44 => ?_) (fun h44 => ?_)
      · refine J.loc (lv' := [(0, _), (1, _)]) ⟨rfl, rfl, trivial⟩ ?_
        rw [eN] at h44
        have e : t = N + 1 := by omega
        subst e
        exact fin hr
      · refine j_iconst (p2 := 48) dM_isInCircle_47 rfl ?_
        refine j_istore_n (p2 := 49) (lv' := [(0, _), (1, _), (2, _), (3, _)]) dM_isInCircle_48 rfl (Nat.le_of_ble_eq_true rfl) ⟨rfl, rfl, rfl, rfl, trivial⟩ ?_
        refine J.loc (lv' := [(0, _), (1, _), (2, _), (3, _)]) ⟨rfl, rfl, rfl, rfl, trivial⟩ ?_
        rw [eN] at h44
        exact inner t _ (rcT_01 rc0_01 t) (by omega) (ih (t + 1) (by omega) (by omega)) (N + 1) 0 (by omega) (by omega)
  have first : ¬ rem (hI σ 70 m) → ∀ (n i : Nat), i ≤ N → N + 1 ≤ i + n → J mM_isInCircle 16 [(0, vR 69), (1, vI m), (2, vI i)] [] (wI σ 104 (pw (hI σ 104) (fun _ => 0) i)) Q := by
    intro hr n
    induction n with
    | zero => intro i h1 h2; exact absurd h2 (by omega)
    | succ n ih =>
      intro i h1 h2
      have eN : hI (wI σ 104 (pw (hI σ 104) (fun _ => 0) i)) 69 0 = N := hN
      have ih2 : i < N → J mM_isInCircle 16 [(0, vR 69), (1, vI m), (2, vI (i + 1))] [] (wI σ 104 (fup (pw (hI σ 104) (fun _ => 0) i) i 0)) Q := fun h => by
        have := ih (i + 1) (by omega) (by omega)
        rw [← pw_s] at this
        exact this
      refine j_iload_n (p2 := 17) dM_isInCircle_16 rfl rfl ?_
      refine j_aload_n (p2 := 18) dM_isInCircle_17 rfl rfl ?_
      refine j_getIk (p2 := 21) dM_isInCircle_18 rfl fa_M_158 ly_69 rfl (ki := 0) rfl ?_
      refine j_icmp_ge (p2 := 24) (tg := 37) dM_isInCircle_21 rfl (by decide) (by constructor <;> omega) (by rw [eN]; constructor <;> omega) (fun h21 => ?_) (fun h21 => ?_)
      · refine j_iconst (p2 := 38) dM_isInCircle_37 rfl ?_
        refine j_istore_n (p2 := 39) (lv' := [(0, _), (1, _), (2, _)]) dM_isInCircle_38 rfl (Nat.le_of_ble_eq_true rfl) ⟨rfl, rfl, rfl, trivial⟩ ?_
        refine J.loc (lv' := [(0, _), (1, _), (2, _)]) ⟨rfl, rfl, rfl, trivial⟩ ?_
        rw [eN] at h21
        have e : i = N := by omega
        subst e
        exact outer hr (i + 2) 0 (by omega) (by omega)
      · refine j_aload_n (p2 := 25) dM_isInCircle_24 rfl rfl ?_
        refine j_getR (p2 := 28) dM_isInCircle_25 rfl fa_M_119 ly_69 rfl ?_
        refine j_iload_n (p2 := 29) dM_isInCircle_28 rfl rfl ?_
        refine j_iconst (p2 := 30) dM_isInCircle_29 rfl ?_
        refine j_zastk (p2 := 31) dM_isInCircle_30 rfl ly_104 (by decide) (by omega) (by rw [eN] at h21; omega) (Or.inl rfl) ?_
        refine j_iinc (p2 := 34) (lv' := [(0, _), (1, _), (2, _)]) dM_isInCircle_31 rfl (Nat.le_of_ble_eq_true rfl) rfl ⟨rfl, rfl, rfl, trivial⟩ ?_
        refine j_goto (p2 := 16) dM_isInCircle_34 (by decide) ?_
        refine J.loc (lv' := [(0, _), (1, _), (2, _)]) ⟨rfl, rfl, rfl, trivial⟩ ?_
        rw [eN] at h21
        rw [wI_wI]
        exact ih2 (by omega)
  refine j_aload_n (p2 := 1) dM_isInCircle_0 rfl rfl ?_
  refine j_getR (p2 := 4) dM_isInCircle_1 rfl fa_M_7 ly_69 rfl ?_
  refine j_iload_n (p2 := 5) dM_isInCircle_4 rfl rfl ?_
  refine j_iald (p2 := 6) dM_isInCircle_5 rfl ly_70 (by decide) (by omega) (by omega) ?_
  refine j_callS (m' := mM_remembers) (As := [_]) (p2 := 9) dM_isInCircle_6 rfl ml_M_207 ok_mM_remembers sm_mM_remembers rfl rfl (Nat.le_of_ble_eq_true rfl) (Nat.le_of_ble_eq_true rfl) ⟨(Nat.le_of_ble_eq_true rfl), (Nat.le_of_ble_eq_true rfl)⟩ ?_
  refine cM_remembers (hk m (by omega) (by omega)) ?_
  refine j_ifb_eq (p2 := 12) (tg := 14) dM_isInCircle_9 rfl (by decide) (fun h9 => ?_) (fun h9 => ?_)
  · refine j_iconst (p2 := 15) dM_isInCircle_14 rfl ?_
    refine j_istore_n (p2 := 16) (lv' := [(0, _), (1, _), (2, _)]) dM_isInCircle_15 rfl (Nat.le_of_ble_eq_true rfl) ⟨rfl, rfl, rfl, trivial⟩ ?_
    refine J.loc (lv' := [(0, _), (1, _), (2, _)]) ⟨rfl, rfl, rfl, trivial⟩ ?_
    have e0 : wI σ 104 (pw (hI σ 104) (fun _ => 0) 0) = σ := by rw [pw_0, wI_id]
    exact (first (of_decide_eq_false h9) (N + 1) 0 (by omega) (by omega)).hp e0
  · refine j_iconst (p2 := 13) dM_isInCircle_12 rfl ?_
    refine j_zreturn dM_isInCircle_13 rfl (by first | exact Or.inl rfl | exact Or.inr rfl | exact bI_or _ | omega) (by exact hQ0 (dec_t h9))
end REF19
