/-! ===== the panel: rules, what is read, gaps ===== -/
def brB (kd fr np : Int → Int) (N : Nat) (b m : Int) : Bool := if b = 1 then !hIn kd fr m else if b = 2 then decide (kd m = 7) && decide (np m < 2) else circ kd fr N m
def oI : Option Int → Int
  | some x => x
  | none => -1
section PAN1
variable {σ : Hp} {Q : Option PV → Hp → Prop} {N : Nat}
theorem cX_breaks {fr : Int → Int} {m b : Int} (hc : CtI σ fr N) (hm : 0 ≤ m ∧ m < N) (hp : inR (hI σ 11 m)) (hb : 1 ≤ b ∧ b ≤ 3) (hL : LevR σ fr N) (hQ : Q (some (vI (bI (brB (hI σ 4) fr (hI σ 11) N b m)))) σ) : Sp mX_breaks [vR 0, vI m, vI b] σ Q := by
  have hN2 := hc.2.1
  have hk := hc.2.2.1 m hm.1 hm.2
  unfold brB at hQ
  refine j_iload_n (p2 := 1) dX_breaks_0 rfl rfl ?_
  rcases (by omega : b = 1 ∨ b = 2 ∨ b = 3) with hk | hk | hk
  · refine j_lsw (tg := 28) dX_breaks_1 (by constructor <;> omega) (by decide) (by rw [hk]) (by decide) ?_
    refine j_aload_n (p2 := 29) dX_breaks_28 rfl rfl ?_
    refine j_getR (p2 := 32) dX_breaks_29 rfl fa_X_10 ly_0 rfl ?_
    refine j_iload_n (p2 := 33) dX_breaks_32 rfl rfl ?_
    refine j_callV (m' := mP_hasNeededInputs) (As := [_]) (p2 := 36) dX_breaks_33 rfl ml_X_155 ok_mP_hasNeededInputs im_mP_hasNeededInputs se_mP_hasNeededInputs rfl rfl (Nat.le_of_ble_eq_true rfl) ly_3 rfl (Nat.le_of_ble_eq_true rfl) ⟨(Nat.le_of_ble_eq_true rfl), (Nat.le_of_ble_eq_true rfl)⟩ ?_
    rw [if_pos (by omega)] at hQ
    refine cP_hasNeededInputs hc hm ?_
    refine j_ifb_ne (p2 := 39) (tg := 43) dX_breaks_36 rfl (by decide) (fun h36 => ?_) (fun h36 => ?_)
    · refine j_iconst (p2 := 44) dX_breaks_43 rfl ?_
      refine j_zreturn dX_breaks_44 rfl (by first | exact Or.inl rfl | exact Or.inr rfl | exact bI_or _ | omega) (by first | exact hQ | (rw [h36] at hQ; exact hQ) | (rw [if_neg (by omega), if_pos (by omega), decide_eq_false (p := hI σ 4 m = 7) h56] at hQ; exact hQ) | (rw [if_neg (by omega), if_pos (by omega), decide_eq_true (p := hI σ 4 m = 7) (by omega), decide_eq_true (p := hI σ 11 m < 2) (by omega)] at hQ; exact hQ) | (rw [if_neg (by omega), if_pos (by omega), decide_eq_true (p := hI σ 4 m = 7) (by omega), decide_eq_false (p := hI σ 11 m < 2) (by omega)] at hQ; exact hQ))
    · refine j_iconst (p2 := 40) dX_breaks_39 rfl ?_
      refine j_goto (p2 := 44) dX_breaks_40 (by decide) ?_
      refine j_zreturn dX_breaks_44 rfl (by first | exact Or.inl rfl | exact Or.inr rfl | exact bI_or _ | omega) (by first | exact hQ | (rw [h36] at hQ; exact hQ) | (rw [if_neg (by omega), if_pos (by omega), decide_eq_false (p := hI σ 4 m = 7) h56] at hQ; exact hQ) | (rw [if_neg (by omega), if_pos (by omega), decide_eq_true (p := hI σ 4 m = 7) (by omega), decide_eq_true (p := hI σ 11 m < 2) (by omega)] at hQ; exact hQ) | (rw [if_neg (by omega), if_pos (by omega), decide_eq_true (p := hI σ 4 m = 7) (by omega), decide_eq_false (p := hI σ 11 m < 2) (by omega)] at hQ; exact hQ))
  · refine j_lsw (tg := 45) dX_breaks_1 (by constructor <;> omega) (by decide) (by rw [hk]) (by decide) ?_
    refine j_aload_n (p2 := 46) dX_breaks_45 rfl rfl ?_
    refine j_getR (p2 := 49) dX_breaks_46 rfl fa_X_10 ly_0 rfl ?_
    refine j_getR (p2 := 52) dX_breaks_49 rfl fa_X_97 ly_3 rfl ?_
    refine j_iload_n (p2 := 53) dX_breaks_52 rfl rfl ?_
    refine j_iald (p2 := 54) dX_breaks_53 rfl ly_4 (by decide) (by omega) (by omega) ?_
    refine j_bipush (v := 7) (p2 := 56) dX_breaks_54 rfl rfl ?_
    refine j_icmp_ne (p2 := 59) (tg := 76) dX_breaks_56 rfl (by decide) (by constructor <;> omega) (by constructor <;> omega) (fun h56 => ?_) (fun h56 => ?_)
    · refine j_iconst (p2 := 77) dX_breaks_76 rfl ?_
      refine j_zreturn dX_breaks_77 rfl (by first | exact Or.inl rfl | exact Or.inr rfl | exact bI_or _ | omega) (by first | exact hQ | (rw [h36] at hQ; exact hQ) | (rw [if_neg (by omega), if_pos (by omega), decide_eq_false (p := hI σ 4 m = 7) h56] at hQ; exact hQ) | (rw [if_neg (by omega), if_pos (by omega), decide_eq_true (p := hI σ 4 m = 7) (by omega), decide_eq_true (p := hI σ 11 m < 2) (by omega)] at hQ; exact hQ) | (rw [if_neg (by omega), if_pos (by omega), decide_eq_true (p := hI σ 4 m = 7) (by omega), decide_eq_false (p := hI σ 11 m < 2) (by omega)] at hQ; exact hQ))
    · refine j_aload_n (p2 := 60) dX_breaks_59 rfl rfl ?_
      refine j_getR (p2 := 63) dX_breaks_60 rfl fa_X_10 ly_0 rfl ?_
      refine j_getR (p2 := 66) dX_breaks_63 rfl fa_X_108 ly_3 rfl ?_
      refine j_iload_n (p2 := 67) dX_breaks_66 rfl rfl ?_
      refine j_iald (p2 := 68) dX_breaks_67 rfl ly_11 (by decide) (by omega) (by omega) ?_
      refine j_iconst (p2 := 69) dX_breaks_68 rfl ?_
      refine j_icmp_ge (p2 := 72) (tg := 76) dX_breaks_69 rfl (by decide) (by constructor <;> omega) (by constructor <;> omega) (fun h69 => ?_) (fun h69 => ?_)
      · refine j_iconst (p2 := 77) dX_breaks_76 rfl ?_
        refine j_zreturn dX_breaks_77 rfl (by first | exact Or.inl rfl | exact Or.inr rfl | exact bI_or _ | omega) (by first | exact hQ | (rw [h36] at hQ; exact hQ) | (rw [if_neg (by omega), if_pos (by omega), decide_eq_false (p := hI σ 4 m = 7) h56] at hQ; exact hQ) | (rw [if_neg (by omega), if_pos (by omega), decide_eq_true (p := hI σ 4 m = 7) (by omega), decide_eq_true (p := hI σ 11 m < 2) (by omega)] at hQ; exact hQ) | (rw [if_neg (by omega), if_pos (by omega), decide_eq_true (p := hI σ 4 m = 7) (by omega), decide_eq_false (p := hI σ 11 m < 2) (by omega)] at hQ; exact hQ))
      · refine j_iconst (p2 := 73) dX_breaks_72 rfl ?_
        refine j_goto (p2 := 77) dX_breaks_73 (by decide) ?_
        refine j_zreturn dX_breaks_77 rfl (by first | exact Or.inl rfl | exact Or.inr rfl | exact bI_or _ | omega) (by first | exact hQ | (rw [h36] at hQ; exact hQ) | (rw [if_neg (by omega), if_pos (by omega), decide_eq_false (p := hI σ 4 m = 7) h56] at hQ; exact hQ) | (rw [if_neg (by omega), if_pos (by omega), decide_eq_true (p := hI σ 4 m = 7) (by omega), decide_eq_true (p := hI σ 11 m < 2) (by omega)] at hQ; exact hQ) | (rw [if_neg (by omega), if_pos (by omega), decide_eq_true (p := hI σ 4 m = 7) (by omega), decide_eq_false (p := hI σ 11 m < 2) (by omega)] at hQ; exact hQ))
  · refine j_lsw (tg := 78) dX_breaks_1 (by constructor <;> omega) (by decide) (by rw [hk]) (by decide) ?_
    refine j_aload_n (p2 := 79) dX_breaks_78 rfl rfl ?_
    refine j_getR (p2 := 82) dX_breaks_79 rfl fa_X_21 ly_0 rfl ?_
    refine j_iload_n (p2 := 83) dX_breaks_82 rfl rfl ?_
    refine j_callV (m' := mV_isOnCircle) (As := [_]) (p2 := 86) dX_breaks_83 rfl ml_X_158 ok_mV_isOnCircle im_mV_isOnCircle se_mV_isOnCircle rfl rfl (Nat.le_of_ble_eq_true rfl) ly_15 rfl (Nat.le_of_ble_eq_true rfl) ⟨(Nat.le_of_ble_eq_true rfl), (Nat.le_of_ble_eq_true rfl)⟩ ?_
    rw [if_neg (by omega), if_neg (by omega)] at hQ
    refine cV_isOnCircle hc hm hL ?_
    refine j_zreturn dX_breaks_86 rfl (by first | exact Or.inl rfl | exact Or.inr rfl | exact bI_or _ | omega) (by first | exact hQ | (rw [h36] at hQ; exact hQ) | (rw [if_neg (by omega), if_pos (by omega), decide_eq_false (p := hI σ 4 m = 7) h56] at hQ; exact hQ) | (rw [if_neg (by omega), if_pos (by omega), decide_eq_true (p := hI σ 4 m = 7) (by omega), decide_eq_true (p := hI σ 11 m < 2) (by omega)] at hQ; exact hQ) | (rw [if_neg (by omega), if_pos (by omega), decide_eq_true (p := hI σ 4 m = 7) (by omega), decide_eq_false (p := hI σ 11 m < 2) (by omega)] at hQ; exact hQ))
theorem cX_leastThatBreaks {fr : Int → Int} {b : Int} (hc : CtI σ fr N) (hp : ∀ m : Int, 0 ≤ m → m < N → inR (hI σ 11 m)) (hb : 1 ≤ b ∧ b ≤ 3) (hL : LevR σ fr N) (hQ : Q (some (vI (oI (fnd (brB (hI σ 4) fr (hI σ 11) N b) N 0)))) σ) : Sp mX_leastThatBreaks [vR 0, vI b] σ Q := by
  have hN := hc.1
  have hN2 := hc.2.1
  have loop : ∀ (n i : Nat), i + n = N → Q (some (vI (oI (fnd (brB (hI σ 4) fr (hI σ 11) N b) n i)))) σ → J mX_leastThatBreaks 2 [(0, vR 0), (1, vI b), (2, vI i)] [] σ Q := by
    intro n
    induction n with
    | zero =>
      intro i h1 hq
      refine j_iload_n (p2 := 3) dX_leastThatBreaks_2 rfl rfl ?_
      refine j_aload_n (p2 := 4) dX_leastThatBreaks_3 rfl rfl ?_
      refine j_getR (p2 := 7) dX_leastThatBreaks_4 rfl fa_X_10 ly_0 rfl ?_
      refine j_getIk (p2 := 10) dX_leastThatBreaks_7 rfl fa_X_82 ly_3 rfl (ki := 0) rfl ?_
      refine j_icmp_ge (p2 := 13) (tg := 30) dX_leastThatBreaks_10 rfl (by decide) (by constructor <;> omega) (by constructor <;> omega) (fun h10 => ?_) (fun h10 => ?_)
      · refine j_iconst (p2 := 31) dX_leastThatBreaks_30 rfl ?_
        refine j_ireturn dX_leastThatBreaks_31 rfl (by exact hq)
      · refine J.loc (lv' := [(0, _), (1, _), (2, _)]) ⟨rfl, rfl, rfl, trivial⟩ ?_
        exfalso
        omega
    | succ n ih =>
      intro i h1 hq
      have e : fnd (brB (hI σ 4) fr (hI σ 11) N b) (n + 1) i = if brB (hI σ 4) fr (hI σ 11) N b i = true then some (i : Int) else fnd (brB (hI σ 4) fr (hI σ 11) N b) n (i + 1) := rfl
      rw [e] at hq
      refine j_iload_n (p2 := 3) dX_leastThatBreaks_2 rfl rfl ?_
      refine j_aload_n (p2 := 4) dX_leastThatBreaks_3 rfl rfl ?_
      refine j_getR (p2 := 7) dX_leastThatBreaks_4 rfl fa_X_10 ly_0 rfl ?_
      refine j_getIk (p2 := 10) dX_leastThatBreaks_7 rfl fa_X_82 ly_3 rfl (ki := 0) rfl ?_
      refine j_icmp_ge (p2 := 13) (tg := 30) dX_leastThatBreaks_10 rfl (by decide) (by constructor <;> omega) (by constructor <;> omega) (fun h10 => ?_) (fun h10 => ?_)
      · refine j_iconst (p2 := 31) dX_leastThatBreaks_30 rfl ?_
        refine j_ireturn dX_leastThatBreaks_31 rfl (by first | (exfalso; omega) | (rw [h19, if_pos rfl] at hq; exact hq))
      · refine j_aload_n (p2 := 14) dX_leastThatBreaks_13 rfl rfl ?_
        refine j_iload_n (p2 := 15) dX_leastThatBreaks_14 rfl rfl ?_
        refine j_iload_n (p2 := 16) dX_leastThatBreaks_15 rfl rfl ?_
        refine j_callV (m' := mX_breaks) (As := [_, _]) (p2 := 19) dX_leastThatBreaks_16 rfl ml_X_151 ok_mX_breaks im_mX_breaks se_mX_breaks rfl rfl (Nat.le_of_ble_eq_true rfl) ly_0 rfl (Nat.le_of_ble_eq_true rfl) ⟨(Nat.le_of_ble_eq_true rfl), (Nat.le_of_ble_eq_true rfl)⟩ ?_
        refine cX_breaks hc ⟨by omega, by omega⟩ (hp i (by omega) (by omega)) hb hL ?_
        refine j_ifb_eq (p2 := 22) (tg := 24) dX_leastThatBreaks_19 rfl (by decide) (fun h19 => ?_) (fun h19 => ?_)
        · refine j_iinc (p2 := 27) (lv' := [(0, _), (1, _), (2, _)]) dX_leastThatBreaks_24 rfl (Nat.le_of_ble_eq_true rfl) rfl ⟨rfl, rfl, rfl, trivial⟩ ?_
          refine j_goto (p2 := 2) dX_leastThatBreaks_27 (by decide) ?_
          refine J.loc (lv' := [(0, _), (1, _), (2, _)]) ⟨rfl, rfl, rfl, trivial⟩ ?_
          rw [h19, if_neg (by decide)] at hq
          exact ih (i + 1) (by omega) hq
        · refine j_iload_n (p2 := 23) dX_leastThatBreaks_22 rfl rfl ?_
          refine j_ireturn dX_leastThatBreaks_23 rfl (by first | (exfalso; omega) | (rw [h19, if_pos rfl] at hq; exact hq))
  refine j_iconst (p2 := 1) dX_leastThatBreaks_0 rfl ?_
  refine j_istore_n (p2 := 2) (lv' := [(0, _), (1, _), (2, _)]) dX_leastThatBreaks_1 rfl (Nat.le_of_ble_eq_true rfl) ⟨rfl, rfl, rfl, trivial⟩ ?_
  refine J.loc (lv' := [(0, _), (1, _), (2, _)]) ⟨rfl, rfl, rfl, trivial⟩ ?_
  exact loop N 0 (by omega) hQ
/-- the first rule that is broken -/
def fbr (kd fr np : Int → Int) (N : Nat) : Int := if oI (fnd (brB kd fr np N 1) N 0) = -1 then (if oI (fnd (brB kd fr np N 2) N 0) = -1 then (if oI (fnd (brB kd fr np N 3) N 0) = -1 then 0 else 3) else 2) else 1
theorem cX_firstBrokenRule {fr : Int → Int} (hc : CtI σ fr N) (hp : ∀ m : Int, 0 ≤ m → m < N → inR (hI σ 11 m)) (h01 : hI σ 3 3 = 0 ∨ hI σ 3 3 = 1) (hf : hI σ 3 3 = 0 → LevR σ fr N) (hQ : ∀ τ, Fq [3, 15, 16, 17, 18] σ τ → (∀ k : Int, ¬ k = 3 → hI τ 3 k = hI σ 3 k) → hI τ 3 3 = 0 → hD τ 3 = hD σ 3 → LevR τ fr N → Q (some (vI (fbr (hI σ 4) fr (hI σ 11) N))) τ) : Sp mX_firstBrokenRule [vR 0] σ Q := by
  have go : ∀ τ, Fq [3, 15, 16, 17, 18] σ τ → (∀ k : Int, ¬ k = 3 → hI τ 3 k = hI σ 3 k) → hI τ 3 3 = 0 → hD τ 3 = hD σ 3 → LevR τ fr N → J mX_firstBrokenRule 9 [(0, vR 0), (1, vI 1)] [] τ Q := by
    intro τ F f1 f2 f3 hL
    have hq := hQ τ F f1 f2 f3 hL
    have e4 := F.I (c := 4) (by decide)
    have e11 := F.I (c := 11) (by decide)
    have hc2 : CtI τ fr N := by
      refine ⟨by rw [f1 0 (by decide)]; exact hc.1, hc.2.1, by rw [e4]; exact hc.2.2.1, ?_⟩
      rw [F.I (c := 9) (by decide), F.I (c := 10) (by decide)]
      exact hc.2.2.2
    have hp2 : ∀ m : Int, 0 ≤ m → m < N → inR (hI τ 11 m) := by rw [e11]; exact hp
    have bo : ∀ b : Int, -1 ≤ oI (fnd (brB (hI σ 4) fr (hI σ 11) N b) N 0) ∧ oI (fnd (brB (hI σ 4) fr (hI σ 11) N b) N 0) < 20 := by
      intro b
      have hN2 := hc.2.1
      cases h : fnd (brB (hI σ 4) fr (hI σ 11) N b) N 0 with
      | none => show (-1 : Int) ≤ -1 ∧ (-1 : Int) < 20; decide
      | some x => have := fnd_some _ _ _ h; show -1 ≤ x ∧ x < 20; omega
    have b1 := bo 1
    have b2 := bo 2
    have b3 := bo 3
    unfold fbr at hq
    have at3 : oI (fnd (brB (hI σ 4) fr (hI σ 11) N 1) N 0) = -1 → oI (fnd (brB (hI σ 4) fr (hI σ 11) N 2) N 0) = -1 → J mX_firstBrokenRule 9 [(0, vR 0), (1, vI 3)] [] τ Q := fun g1 g2 => by
      rw [if_pos g1, if_pos g2] at hq
      have at4 : oI (fnd (brB (hI σ 4) fr (hI σ 11) N 3) N 0) = -1 → J mX_firstBrokenRule 9 [(0, vR 0), (1, vI 4)] [] τ Q := fun g3 => by
        rw [if_pos g3] at hq
        refine j_iload_n (p2 := 10) dX_firstBrokenRule_9 rfl rfl ?_
        refine j_iconst (p2 := 11) dX_firstBrokenRule_10 rfl ?_
        refine j_icmp_gt (p2 := 14) (tg := 31) dX_firstBrokenRule_11 rfl (by decide) (by constructor <;> omega) (by constructor <;> omega) (fun h11 => ?_) (fun h11 => ?_)
        · refine j_iconst (p2 := 32) dX_firstBrokenRule_31 rfl ?_
          refine j_ireturn dX_firstBrokenRule_32 rfl (by exact hq)
        · refine J.loc (lv' := [(0, _), (1, _)]) ⟨rfl, rfl, trivial⟩ ?_
          exfalso
          omega
      refine j_iload_n (p2 := 10) dX_firstBrokenRule_9 rfl rfl ?_
      refine j_iconst (p2 := 11) dX_firstBrokenRule_10 rfl ?_
      refine j_icmp_gt (p2 := 14) (tg := 31) dX_firstBrokenRule_11 rfl (by decide) (by constructor <;> omega) (by constructor <;> omega) (fun h11 => ?_) (fun h11 => ?_)
      · refine j_iconst (p2 := 32) dX_firstBrokenRule_31 rfl ?_
        refine j_ireturn dX_firstBrokenRule_32 rfl (by first | (exfalso; omega) | (rw [if_neg h20] at hq; exact hq))
      · refine j_aload_n (p2 := 15) dX_firstBrokenRule_14 rfl rfl ?_
        refine j_iload_n (p2 := 16) dX_firstBrokenRule_15 rfl rfl ?_
        refine j_callV (m' := mX_leastThatBreaks) (As := [_]) (p2 := 19) dX_firstBrokenRule_16 rfl ml_X_141 ok_mX_leastThatBreaks im_mX_leastThatBreaks se_mX_leastThatBreaks rfl rfl (Nat.le_of_ble_eq_true rfl) ly_0 rfl (Nat.le_of_ble_eq_true rfl) ⟨(Nat.le_of_ble_eq_true rfl), (Nat.le_of_ble_eq_true rfl)⟩ ?_
        refine cX_leastThatBreaks hc2 hp2 (by omega) hL ?_
        rw [e4, e11]
        refine j_iconst (p2 := 20) dX_firstBrokenRule_19 rfl ?_
        refine j_icmp_eq (p2 := 23) (tg := 25) dX_firstBrokenRule_20 rfl (by decide) (by constructor <;> omega) (by constructor <;> omega) (fun h20 => ?_) (fun h20 => ?_)
        · refine j_iinc (p2 := 28) (lv' := [(0, _), (1, _)]) dX_firstBrokenRule_25 rfl (Nat.le_of_ble_eq_true rfl) rfl ⟨rfl, rfl, trivial⟩ ?_
          refine j_goto (p2 := 9) dX_firstBrokenRule_28 (by decide) ?_
          refine J.loc (lv' := [(0, _), (1, _)]) ⟨rfl, rfl, trivial⟩ ?_
          exact at4 h20
        · refine j_iload_n (p2 := 24) dX_firstBrokenRule_23 rfl rfl ?_
          refine j_ireturn dX_firstBrokenRule_24 rfl (by first | (exfalso; omega) | (rw [if_neg h20] at hq; exact hq))
    have at2 : oI (fnd (brB (hI σ 4) fr (hI σ 11) N 1) N 0) = -1 → J mX_firstBrokenRule 9 [(0, vR 0), (1, vI 2)] [] τ Q := fun g1 => by
      rw [if_pos g1] at hq
      refine j_iload_n (p2 := 10) dX_firstBrokenRule_9 rfl rfl ?_
      refine j_iconst (p2 := 11) dX_firstBrokenRule_10 rfl ?_
      refine j_icmp_gt (p2 := 14) (tg := 31) dX_firstBrokenRule_11 rfl (by decide) (by constructor <;> omega) (by constructor <;> omega) (fun h11 => ?_) (fun h11 => ?_)
      · refine j_iconst (p2 := 32) dX_firstBrokenRule_31 rfl ?_
        refine j_ireturn dX_firstBrokenRule_32 rfl (by first | (exfalso; omega) | (rw [if_neg h20] at hq; exact hq))
      · refine j_aload_n (p2 := 15) dX_firstBrokenRule_14 rfl rfl ?_
        refine j_iload_n (p2 := 16) dX_firstBrokenRule_15 rfl rfl ?_
        refine j_callV (m' := mX_leastThatBreaks) (As := [_]) (p2 := 19) dX_firstBrokenRule_16 rfl ml_X_141 ok_mX_leastThatBreaks im_mX_leastThatBreaks se_mX_leastThatBreaks rfl rfl (Nat.le_of_ble_eq_true rfl) ly_0 rfl (Nat.le_of_ble_eq_true rfl) ⟨(Nat.le_of_ble_eq_true rfl), (Nat.le_of_ble_eq_true rfl)⟩ ?_
        refine cX_leastThatBreaks hc2 hp2 (by omega) hL ?_
        rw [e4, e11]
        refine j_iconst (p2 := 20) dX_firstBrokenRule_19 rfl ?_
        refine j_icmp_eq (p2 := 23) (tg := 25) dX_firstBrokenRule_20 rfl (by decide) (by constructor <;> omega) (by constructor <;> omega) (fun h20 => ?_) (fun h20 => ?_)
        · refine j_iinc (p2 := 28) (lv' := [(0, _), (1, _)]) dX_firstBrokenRule_25 rfl (Nat.le_of_ble_eq_true rfl) rfl ⟨rfl, rfl, trivial⟩ ?_
          refine j_goto (p2 := 9) dX_firstBrokenRule_28 (by decide) ?_
          refine J.loc (lv' := [(0, _), (1, _)]) ⟨rfl, rfl, trivial⟩ ?_
          exact at3 g1 h20
        · refine j_iload_n (p2 := 24) dX_firstBrokenRule_23 rfl rfl ?_
          refine j_ireturn dX_firstBrokenRule_24 rfl (by first | (exfalso; omega) | (rw [if_neg h20] at hq; exact hq))
    refine j_iload_n (p2 := 10) dX_firstBrokenRule_9 rfl rfl ?_
    refine j_iconst (p2 := 11) dX_firstBrokenRule_10 rfl ?_
    refine j_icmp_gt (p2 := 14) (tg := 31) dX_firstBrokenRule_11 rfl (by decide) (by constructor <;> omega) (by constructor <;> omega) (fun h11 => ?_) (fun h11 => ?_)
    · refine j_iconst (p2 := 32) dX_firstBrokenRule_31 rfl ?_
      refine j_ireturn dX_firstBrokenRule_32 rfl (by first | (exfalso; omega) | (rw [if_neg h20] at hq; exact hq))
    · refine j_aload_n (p2 := 15) dX_firstBrokenRule_14 rfl rfl ?_
      refine j_iload_n (p2 := 16) dX_firstBrokenRule_15 rfl rfl ?_
      refine j_callV (m' := mX_leastThatBreaks) (As := [_]) (p2 := 19) dX_firstBrokenRule_16 rfl ml_X_141 ok_mX_leastThatBreaks im_mX_leastThatBreaks se_mX_leastThatBreaks rfl rfl (Nat.le_of_ble_eq_true rfl) ly_0 rfl (Nat.le_of_ble_eq_true rfl) ⟨(Nat.le_of_ble_eq_true rfl), (Nat.le_of_ble_eq_true rfl)⟩ ?_
      refine cX_leastThatBreaks hc2 hp2 (by omega) hL ?_
      rw [e4, e11]
      refine j_iconst (p2 := 20) dX_firstBrokenRule_19 rfl ?_
      refine j_icmp_eq (p2 := 23) (tg := 25) dX_firstBrokenRule_20 rfl (by decide) (by constructor <;> omega) (by constructor <;> omega) (fun h20 => ?_) (fun h20 => ?_)
      · refine j_iinc (p2 := 28) (lv' := [(0, _), (1, _)]) dX_firstBrokenRule_25 rfl (Nat.le_of_ble_eq_true rfl) rfl ⟨rfl, rfl, trivial⟩ ?_
        refine j_goto (p2 := 9) dX_firstBrokenRule_28 (by decide) ?_
        refine J.loc (lv' := [(0, _), (1, _)]) ⟨rfl, rfl, trivial⟩ ?_
        exact at2 h20
      · refine j_iload_n (p2 := 24) dX_firstBrokenRule_23 rfl rfl ?_
        refine j_ireturn dX_firstBrokenRule_24 rfl (by first | (exfalso; omega) | (rw [if_neg h20] at hq; exact hq))
  refine j_aload_n (p2 := 1) dX_firstBrokenRule_0 rfl rfl ?_
  refine j_getR (p2 := 4) dX_firstBrokenRule_1 rfl fa_X_21 ly_0 rfl ?_
  refine j_callV (m' := mV_refresh) (As := []) (p2 := 7) dX_firstBrokenRule_4 rfl ml_X_145 ok_mV_refresh im_mV_refresh se_mV_refresh rfl rfl (Nat.le_of_ble_eq_true rfl) ly_15 rfl (Nat.le_of_ble_eq_true rfl) ⟨(Nat.le_of_ble_eq_true rfl), (Nat.le_of_ble_eq_true rfl)⟩ ?_
  refine cV_refresh hc h01 hf (fun τ F f1 f2 f3 hL => ?_)
  refine j_iconst (p2 := 8) dX_firstBrokenRule_7 rfl ?_
  refine j_istore_n (p2 := 9) (lv' := [(0, _), (1, _)]) dX_firstBrokenRule_8 rfl (Nat.le_of_ble_eq_true rfl) ⟨rfl, rfl, trivial⟩ ?_
  refine J.loc (lv' := [(0, _), (1, _)]) ⟨rfl, rfl, trivial⟩ ?_
  exact go τ F f1 f2 f3 hL
theorem cX_isRead {m : Int} (hm : inR m) (hn : 0 ≤ hI σ 3 0 ∧ hI σ 3 0 ≤ 20) (hmo : inR (hI σ 0 9)) (hQ : Q (some (vI (bI (decide (¬ hI σ 0 9 = 0 ∧ 0 ≤ m ∧ m < hI σ 3 0))))) σ) : Sp mX_isRead [vR 0, vI m] σ Q := by
  refine j_aload_n (p2 := 1) dX_isRead_0 rfl rfl ?_
  refine j_getIk (p2 := 4) dX_isRead_1 rfl fa_X_68 ly_0 rfl (ki := 9) rfl ?_
  refine j_if_eq (p2 := 7) (tg := 22) dX_isRead_4 rfl (by decide) (by constructor <;> omega) (fun h4 => ?_) (fun h4 => ?_)
  · refine j_iconst (p2 := 23) dX_isRead_22 rfl ?_
    refine j_zreturn dX_isRead_23 rfl (by first | exact Or.inl rfl | exact Or.inr rfl | exact bI_or _ | omega) (by first | exact Q_b0 hQ (fun q => q.1 h4) | (have g := dec_t h15; exact Q_b1 hQ ⟨h4, g⟩) | (have g := of_decide_eq_false h15; exact Q_b0 hQ (fun q => g q.2)))
  · refine j_aload_n (p2 := 8) dX_isRead_7 rfl rfl ?_
    refine j_getR (p2 := 11) dX_isRead_8 rfl fa_X_10 ly_0 rfl ?_
    refine j_iload_n (p2 := 12) dX_isRead_11 rfl rfl ?_
    refine j_callV (m' := mP_has) (As := [_]) (p2 := 15) dX_isRead_12 rfl ml_X_89 ok_mP_has im_mP_has se_mP_has rfl rfl (Nat.le_of_ble_eq_true rfl) ly_3 rfl (Nat.le_of_ble_eq_true rfl) ⟨(Nat.le_of_ble_eq_true rfl), (Nat.le_of_ble_eq_true rfl)⟩ ?_
    refine cP_has hm hn ?_
    refine j_ifb_eq (p2 := 18) (tg := 22) dX_isRead_15 rfl (by decide) (fun h15 => ?_) (fun h15 => ?_)
    · refine j_iconst (p2 := 23) dX_isRead_22 rfl ?_
      refine j_zreturn dX_isRead_23 rfl (by first | exact Or.inl rfl | exact Or.inr rfl | exact bI_or _ | omega) (by first | exact Q_b0 hQ (fun q => q.1 h4) | (have g := dec_t h15; exact Q_b1 hQ ⟨h4, g⟩) | (have g := of_decide_eq_false h15; exact Q_b0 hQ (fun q => g q.2)))
    · refine j_iconst (p2 := 19) dX_isRead_18 rfl ?_
      refine j_goto (p2 := 23) dX_isRead_19 (by decide) ?_
      refine j_zreturn dX_isRead_23 rfl (by first | exact Or.inl rfl | exact Or.inr rfl | exact bI_or _ | omega) (by first | exact Q_b0 hQ (fun q => q.1 h4) | (have g := dec_t h15; exact Q_b1 hQ ⟨h4, g⟩) | (have g := of_decide_eq_false h15; exact Q_b0 hQ (fun q => g q.2)))
theorem cX_with {h x : Int64} (hQ : Q (some (vL (31 * h + x))) σ) : Sp mX_with [vL h, vL x] σ Q := by
  refine j_ldc2 (p2 := 3) dX_with_0 rfl cw_X_296 ?_
  refine j_lload_n (p2 := 4) dX_with_3 rfl rfl ?_
  refine j_lmul (p2 := 5) dX_with_4 rfl ?_
  refine j_lload_n (p2 := 6) dX_with_5 rfl rfl ?_
  refine j_ladd (p2 := 7) dX_with_6 rfl ?_
  refine j_lreturn dX_with_7 rfl (by exact hQ)
end PAN1
