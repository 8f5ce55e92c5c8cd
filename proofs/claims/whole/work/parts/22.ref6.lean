/-! ===== reading all modules ===== -/
section GR
variable {α : Type}
/-- kinds, settings, from, turned, xs, ys, points, rows, states -/
abbrev Ev (α : Type) : Type := (Int → Int) × (Int → α) × (Int → Int) × (Int → Int) × (Int → α) × (Int → α) × (Int → Int) × (Int → α) × (Int → α)
def gmE (A : Ar α) (E : Ev α) (r : Int → α) (m : Int) : α × Bool := gmade A E.1 E.2.1 E.2.2.1 E.2.2.2.1 E.2.2.2.2.1 E.2.2.2.2.2.1 E.2.2.2.2.2.2.1 r E.2.2.2.2.2.2.2.1 E.2.2.2.2.2.2.2.2 m
/-- module m is read -/
def gone (A : Ar α) (E : Ev α) (s : (Int → α) × (Int → Bool)) (m : Int) : (Int → α) × (Int → Bool) :=
  (fup s.1 m (gaft A (gmE A E s.1 m).1).1, fup s.2 m (s.2 m || (gmE A E s.1 m).2 || (gaft A (gmE A E s.1 m).1).2))
def gread (A : Ar α) (E : Ev α) (l : List Int) (s : (Int → α) × (Int → Bool)) : (Int → α) × (Int → Bool) := l.foldl (gone A E) s
theorem gread_app (A : Ar α) (E : Ev α) (l : List Int) (m : Int) (s : (Int → α) × (Int → Bool)) : gread A E (l ++ [m]) s = gone A E (gread A E l s) m := by
  unfold gread; rw [List.foldl_append]; rfl
end GR
/-- the lamps, lit where b is -/
def lms (f : Int → Int) (t : Int) (b : Int → Bool) : Int → Int := fun m => if b m = true ∧ f m = -1 then t else f m
theorem lms_0 (f : Int → Int) (t : Int) : lms f t (fun _ => false) = f := by
  funext m; unfold lms; rw [if_neg (fun q => by cases q.1)]
theorem lmp_lms (f : Int → Int) (t : Int) (b : Int → Bool) (m : Int) (x : Bool) : lmp (lms f t b) m t x = lms f t (fup b m (b m || x)) := by
  unfold lmp
  cases x with
  | false =>
    rw [if_neg (fun q => by cases q.1)]
    have e : fup b m (b m || false) = b := by
      funext k; unfold fup
      by_cases h : k = m
      · rw [if_pos h, h, Bool.or_false]
      · rw [if_neg h]
    rw [e]
  | true =>
    rw [Bool.or_true]
    by_cases h : lms f t b m = -1
    · rw [if_pos ⟨rfl, h⟩]
      funext k
      unfold fup
      by_cases hk : k = m
      · rw [if_pos hk]
        subst hk
        unfold lms at h ⊢
        simp only [if_true]
        by_cases hb : b k = true ∧ f k = -1
        · rw [if_pos ⟨trivial, hb.2⟩]
        · rw [if_neg hb] at h
          rw [if_pos ⟨trivial, h⟩]
      · rw [if_neg hk]
        unfold lms
        simp only [if_neg hk]
    · rw [if_neg (fun q => h q.2)]
      funext k
      unfold lms at h ⊢
      unfold fup
      by_cases hk : k = m
      · subst hk
        simp only [if_true]
        by_cases hb : b k = true ∧ f k = -1
        · rw [if_pos hb, if_pos ⟨trivial, hb.2⟩]
        · rw [if_neg hb] at h
          rw [if_neg hb, if_neg (fun q => h q.2)]
      · simp only [if_neg hk]
theorem lms_step (f : Int → Int) (t : Int) (b c : Int → Bool) (m : Int) (x y z w : Bool) : lmp (lmp (lmp (lmp (lms f t (fun k => b k || c k)) m t x) m t y) m t z) m t w = lms f t (fun k => fup b m (b m || x || y) k || fup c m (c m || z || w) k) := by
  rw [lmp_lms, lmp_lms, lmp_lms, lmp_lms]
  apply congrArg
  funext k
  unfold fup
  by_cases h : k = m
  · subst h
    simp only [if_true]
    cases b k <;> cases c k <;> cases x <;> cases y <;> cases z <;> cases w <;> rfl
  · simp only [if_neg h]
theorem lmp_inR {f : Int → Int} {m t : Int} {b : Bool} (hf : inR (f m)) (ht : inR t) : inR (lmp f m t b m) := by
  unfold lmp
  by_cases h : b = true ∧ f m = -1
  · rw [if_pos h, fup_s]; exact ht
  · rw [if_neg h]; exact hf
theorem lms_inR {f : Int → Int} {m t : Int} {b : Int → Bool} (hf : inR (f m)) (ht : inR t) : inR (lms f t b m) := by
  unfold lms
  by_cases h : b m = true ∧ f m = -1
  · rw [if_pos h]; exact ht
  · rw [if_neg h]; exact hf
def gmost (lv : Int → Int) : Nat → Int
  | 0 => 0
  | i + 1 => if lv i > gmost lv i then lv i else gmost lv i
def rowl (lv : Int → Int) (l : Int) : Nat → List Int
  | 0 => []
  | i + 1 => if lv i = l then rowl lv l i ++ [(i : Int)] else rowl lv l i
def ordl (lv : Int → Int) (n : Nat) : Nat → List Int
  | 0 => []
  | l + 1 => ordl lv n l ++ rowl lv l n
/-- the order of reading -/
def ords (lv : Int → Int) (n : Nat) : List Int := ordl lv n (gmost lv n + 1).toNat
theorem gmost_b {lv : Int → Int} {n : Nat} (h : ∀ m : Nat, m < n → lv m ≤ 20) : ∀ i : Nat, i ≤ n → 0 ≤ gmost lv i ∧ gmost lv i ≤ 20
  | 0, _ => by show (0 : Int) ≤ 0 ∧ (0 : Int) ≤ 20; decide
  | i + 1, hi => by
    have ih := gmost_b h i (by omega)
    have hh := h i (by omega)
    show (0 : Int) ≤ (if lv i > gmost lv i then lv i else gmost lv i) ∧ (if lv i > gmost lv i then lv i else gmost lv i) ≤ (20 : Int)
    by_cases c : lv i > gmost lv i
    · rw [if_pos c]; omega
    · rw [if_neg c]; exact ih
def evD (σ : Hp) : Ev UInt64 := (hI σ 70, hD σ 71, hI σ 72, hI σ 73, hD σ 76, hD σ 77, hI σ 75, hD σ 84, hD σ 80)
def evF (σ : Hp) : Ev UInt32 := (hI σ 70, xF (hD σ 71), hI σ 72, hI σ 73, xF (hD σ 76), xF (hD σ 77), hI σ 75, hF σ 85, hF σ 81)
def rdD (σ : Hp) (L : List Int) : (Int → UInt64) × (Int → Bool) := gread arD (evD σ) L (hD σ 82, fun _ => false)
def rdF (σ : Hp) (L : List Int) : (Int → UInt32) × (Int → Bool) := gread arF (evF σ) L (hF σ 83, fun _ => false)
def hR (σ : Hp) (r : Int → UInt64) (rF : Int → UInt32) (lm : Int → Int) : Hp := wI (wF (wD σ 82 r) 83 rF) 87 lm
def rdL (σ : Hp) (L : List Int) : Int → Int := lms (hI σ 87) (hI σ 69 44) (fun k => (rdD σ L).2 k || (rdF σ L).2 k)
def rdH (σ : Hp) (L : List Int) : Hp := hR σ (rdD σ L).1 (rdF σ L).1 (rdL σ L)
theorem rd_step {σ : Hp} {r r' : Int → UInt64} {rF rF' : Int → UInt32} {lm l1 l2 l3 l4 : Int → Int} : wF (wI (wI (wD (wI (wI (hR σ r rF lm) 87 l1) 87 l2) 82 r') 87 l3) 87 l4) 83 rF' = hR σ r' rF' l4 := by
  show (up1 (up1 (up1 (up1 (up1 σ.1 87 lm) 87 l1) 87 l2) 87 l3) 87 l4, σ.2.1, up1 (up1 σ.2.2.1 83 rF) 83 rF', up1 (up1 σ.2.2.2 82 r) 82 r') = (up1 σ.1 87 l4, σ.2.1, up1 σ.2.2.1 83 rF', up1 σ.2.2.2 82 r')
  simp only [up1_up1]
/-- what reading needs -/
abbrev RdW (σ : Hp) (N : Nat) : Prop := hI σ 69 0 = N ∧ N ≤ 20 ∧ (∀ m : Int, 0 ≤ m → m < N → WfR σ m) ∧ (∀ m : Int, 0 ≤ m → m < N → -1 ≤ hI σ 79 m ∧ hI σ 79 m ≤ 20) ∧ inR (hI σ 69 44) ∧ (∀ k : Int, 0 ≤ k → k < 20 → mg (hD σ 80 k) 1024 ∧ mf (hF σ 81 k) 128) ∧ ∀ k : Int, 0 ≤ k → k < 320 → mg (hD σ 84 k) 1024 ∧ mf (hF σ 85 k) 128
abbrev RdG (σ : Hp) (L : List Int) : Prop := ∀ k : Int, 0 ≤ k → k < 20 → mg ((rdD σ L).1 k) 1024 ∧ mf ((rdF σ L).1 k) 128
section REF6
variable {σ : Hp} {Q : Option PV → Hp → Prop}
theorem rd66 {N : Nat} (hw : RdW σ N) {L : List Int} {a b m : Int} (hm : 0 ≤ m ∧ m < N) (hL : RdG σ L) (k : RdG σ (L ++ [m]) → J mM_readAll 98 [(0, vR 69), (1, vI a), (2, vI b), (3, vI m)] [] (rdH σ (L ++ [m])) Q) : J mM_readAll 66 [(0, vR 69), (1, vI a), (2, vI b), (3, vI m)] [] (rdH σ L) Q := by
  obtain ⟨hN, hN2, hwf, hlv, hlt, hst, hrw⟩ := hw
  have wf := hwf m hm.1 hm.2
  obtain ⟨g1, g2, g3, g4, g5, g6, g7, g8⟩ := wf
  have eD : rdD σ (L ++ [m]) = gone arD (evD σ) (rdD σ L) m := gread_app _ _ _ _ _
  have eF : rdF σ (L ++ [m]) = gone arF (evF σ) (rdF σ L) m := gread_app _ _ _ _ _
  have eH : rdH σ (L ++ [m]) = hR σ (fup (rdD σ L).1 m (gaft arD (gmE arD (evD σ) (rdD σ L).1 m).1).1) (fup (rdF σ L).1 m (gaft arF (gmE arF (evF σ) (rdF σ L).1 m).1).1)
      (lmp (lmp (lmp (lmp (rdL σ L) m (hI σ 69 44) (gmE arD (evD σ) (rdD σ L).1 m).2) m (hI σ 69 44) (gaft arD (gmE arD (evD σ) (rdD σ L).1 m).1).2) m (hI σ 69 44) (gmE arF (evF σ) (rdF σ L).1 m).2) m (hI σ 69 44) (gaft arF (gmE arF (evF σ) (rdF σ L).1 m).1).2) := by
    unfold rdH rdL
    rw [lms_step, eD, eF]
    rfl
  unfold RdG at k
  rw [eH, eD, eF] at k
  unfold rdH
  have hl0 : inR (rdL σ L m) := lms_inR g8 hlt
  refine j_aload_n (p2 := 67) dM_readAll_66 rfl rfl ?_
  refine j_getR (p2 := 70) dM_readAll_67 rfl fa_M_53 ly_69 rfl ?_
  refine j_iload_n (p2 := 71) dM_readAll_70 rfl rfl ?_
  refine j_aload_n (p2 := 72) dM_readAll_71 rfl rfl ?_
  refine j_iload_n (p2 := 73) dM_readAll_72 rfl rfl ?_
  refine j_aload_n (p2 := 74) dM_readAll_73 rfl rfl ?_
  refine j_iload_n (p2 := 75) dM_readAll_74 rfl rfl ?_
  refine j_callV (m' := mM_made) (As := [_]) (p2 := 78) dM_readAll_75 rfl ml_M_285 ok_mM_made im_mM_made se_mM_made rfl rfl (Nat.le_of_ble_eq_true rfl) ly_69 rfl (Nat.le_of_ble_eq_true rfl) ⟨(Nat.le_of_ble_eq_true rfl), (Nat.le_of_ble_eq_true rfl)⟩ ?_
  refine cM_made (σ := hR σ (rdD σ L).1 (rdF σ L).1 (rdL σ L)) ⟨g1, g2, g3, g4, g5, g6, g7, hl0⟩ ⟨fun k h0 h1 => ⟨(hL k h0 h1).1, (hL k h0 h1).2, (hst k h0 h1).1, (hst k h0 h1).2⟩, hrw⟩ (fun n1 => ?_)
  refine j_callV (m' := mM_after) (As := [_, _]) (p2 := 81) dM_readAll_78 rfl ml_M_288 ok_mM_after im_mM_after se_mM_after rfl rfl (Nat.le_of_ble_eq_true rfl) ly_69 rfl (Nat.le_of_ble_eq_true rfl) ⟨(Nat.le_of_ble_eq_true rfl), (Nat.le_of_ble_eq_true rfl)⟩ ?_
  refine cM_after g1 (lmp_inR hl0 hlt) ?_
  refine j_dastk (p2 := 82) dM_readAll_81 rfl ly_82 (by decide) (by omega) (by omega) ?_
  refine j_aload_n (p2 := 83) dM_readAll_82 rfl rfl ?_
  refine j_getR (p2 := 86) dM_readAll_83 rfl fa_M_56 ly_69 rfl ?_
  refine j_iload_n (p2 := 87) dM_readAll_86 rfl rfl ?_
  refine j_aload_n (p2 := 88) dM_readAll_87 rfl rfl ?_
  refine j_iload_n (p2 := 89) dM_readAll_88 rfl rfl ?_
  refine j_aload_n (p2 := 90) dM_readAll_89 rfl rfl ?_
  refine j_iload_n (p2 := 91) dM_readAll_90 rfl rfl ?_
  refine j_callV (m' := mM_madeF) (As := [_]) (p2 := 94) dM_readAll_91 rfl ml_M_291 ok_mM_madeF im_mM_madeF se_mM_madeF rfl rfl (Nat.le_of_ble_eq_true rfl) ly_69 rfl (Nat.le_of_ble_eq_true rfl) ⟨(Nat.le_of_ble_eq_true rfl), (Nat.le_of_ble_eq_true rfl)⟩ ?_
  refine cM_madeF ⟨g1, g2, g3, g4, g5, g6, g7, lmp_inR (lmp_inR hl0 hlt) hlt⟩ ⟨fun k h0 h1 => ⟨?_, (hL k h0 h1).2, (hst k h0 h1).1, (hst k h0 h1).2⟩, hrw⟩ (fun n2 => ?_)
  · show mg (fup (rdD σ L).1 m _ k) 1024
    unfold fup
    by_cases hk : k = m
    · rw [if_pos hk]; exact (gaft_okD n1).mg
    · rw [if_neg hk]; exact (hL k h0 h1).1
  refine j_callV (m' := mM_afterF) (As := [_, _]) (p2 := 97) dM_readAll_94 rfl ml_M_294 ok_mM_afterF im_mM_afterF se_mM_afterF rfl rfl (Nat.le_of_ble_eq_true rfl) ly_69 rfl (Nat.le_of_ble_eq_true rfl) ⟨(Nat.le_of_ble_eq_true rfl), (Nat.le_of_ble_eq_true rfl)⟩ ?_
  refine cM_afterF g1 (lmp_inR (lmp_inR (lmp_inR hl0 hlt) hlt) hlt) ?_
  refine j_fastk (p2 := 98) dM_readAll_97 rfl ly_83 (by decide) (by omega) (by omega) ?_
  refine J.loc (lv' := [(0, _), (1, _), (2, _), (3, _)]) ⟨rfl, rfl, rfl, rfl, trivial⟩ ?_
  rw [rd_step]
  refine k (fun k h0 h1 => ⟨?_, ?_⟩)
  · show mg (fup (rdD σ L).1 m _ k) 1024
    unfold fup
    by_cases hk : k = m
    · rw [if_pos hk]; exact (gaft_okD n1).mg
    · rw [if_neg hk]; exact (hL k h0 h1).1
  · show mf (fup (rdF σ L).1 m _ k) 128
    unfold fup
    by_cases hk : k = m
    · rw [if_pos hk]; exact (gaft_okF n2).mf
    · rw [if_neg hk]; exact (hL k h0 h1).2
theorem cM_readAll {N : Nat} (hw : RdW σ N) (hL0 : RdG σ []) (hQ : RdG σ (ords (hI σ 79) N) → Q none (rdH σ (ords (hI σ 79) N))) : Sp mM_readAll [vR 69] σ Q := by
  have hw2 := hw
  obtain ⟨hN, hN2, hwf, hlv, hlt, hst, hrw⟩ := hw2
  have hmb := gmost_b (lv := hI σ 79) (n := N) (fun m hm => (hlv m (by omega) (by omega)).2)
  have e0 : rdH σ [] = σ := by
    unfold rdH rdL
    show hR σ (hD σ 82) (hF σ 83) (lms (hI σ 87) (hI σ 69 44) (fun _ => false || false)) = σ
    rw [show (fun _ : Int => false || false) = (fun _ => false) from rfl, lms_0]
    unfold hR
    show wI (wF (wD σ 82 (hD σ 82)) 83 (hF σ 83)) 87 (hI σ 87) = σ
    rw [wD_id, wF_id, wI_id]
  have inner : ∀ (l : Nat), (l : Int) ≤ gmost (hI σ 79) N → RdG σ (ordl (hI σ 79) N l) → (RdG σ (ordl (hI σ 79) N (l + 1)) → J mM_readAll 41 [(0, vR 69), (1, vI (gmost (hI σ 79) N)), (2, vI ((l + 1 : Nat) : Int))] [] (rdH σ (ordl (hI σ 79) N (l + 1))) Q) →
      ∀ (n i : Nat), i ≤ N → N + 1 ≤ i + n → RdG σ (ordl (hI σ 79) N l ++ rowl (hI σ 79) l i) → J mM_readAll 48 [(0, vR 69), (1, vI (gmost (hI σ 79) N)), (2, vI l), (3, vI i)] [] (rdH σ (ordl (hI σ 79) N l ++ rowl (hI σ 79) l i)) Q := by
    intro l hl hG kk n
    have hmN := hmb N (Nat.le_refl N)
    induction n with
    | zero => intro i h1 h2; exact absurd h2 (by omega)
    | succ n ih =>
      intro i h1 h2 hG2
      have ih2 : i < N → RdG σ (ordl (hI σ 79) N l ++ rowl (hI σ 79) l (i + 1)) → J mM_readAll 48 [(0, vR 69), (1, vI (gmost (hI σ 79) N)), (2, vI l), (3, vI (i + 1))] [] (rdH σ (ordl (hI σ 79) N l ++ rowl (hI σ 79) l (i + 1))) Q := fun hi hG3 => ih (i + 1) (by omega) (by omega) hG3
      have ex : i < N → -1 ≤ hI σ 79 i ∧ hI σ 79 i ≤ 20 := fun h => hlv i (by omega) (by omega)
      have eM : hI (rdH σ (ordl (hI σ 79) N l ++ rowl (hI σ 79) l i)) 69 0 = N := hN
      have eV : hI (rdH σ (ordl (hI σ 79) N l ++ rowl (hI σ 79) l i)) 79 = hI σ 79 := rfl
      refine j_iload_n (p2 := 49) dM_readAll_48 rfl rfl ?_
      refine j_aload_n (p2 := 50) dM_readAll_49 rfl rfl ?_
      refine j_getIk (p2 := 53) dM_readAll_50 rfl fa_M_158 ly_69 rfl (ki := 0) rfl ?_
      refine j_icmp_ge (p2 := 56) (tg := 104) dM_readAll_53 rfl (by decide) (by constructor <;> omega) (by rw [eM]; constructor <;> omega) (fun h53 => ?_) (fun h53 => ?_)
      · refine j_iinc (p2 := 107) (lv' := [(0, _), (1, _), (2, _)]) dM_readAll_104 rfl (Nat.le_of_ble_eq_true rfl) rfl ⟨rfl, rfl, rfl, trivial⟩ ?_
        refine j_goto (p2 := 41) dM_readAll_107 (by decide) ?_
        refine J.loc (lv' := [(0, _), (1, _), (2, _)]) ⟨rfl, rfl, rfl, trivial⟩ ?_
        rw [eM] at h53
        have e : i = N := by omega
        subst e
        exact kk hG2
      · refine j_aload_n (p2 := 57) dM_readAll_56 rfl rfl ?_
        refine j_getR (p2 := 60) dM_readAll_57 rfl fa_M_39 ly_69 rfl ?_
        refine j_iload_n (p2 := 61) dM_readAll_60 rfl rfl ?_
        refine j_iald (p2 := 62) dM_readAll_61 rfl ly_79 (by decide) (by omega) (by rw [eM] at h53; omega) ?_
        refine j_iload_n (p2 := 63) dM_readAll_62 rfl rfl ?_
        refine j_icmp_ne (p2 := 66) (tg := 98) dM_readAll_63 rfl (by decide) (by rw [eM] at h53; rw [eV]; have := ex (by omega); constructor <;> omega) (by constructor <;> omega) (fun h63 => ?_) (fun h63 => ?_)
        · refine j_iinc (p2 := 101) (lv' := [(0, _), (1, _), (2, _), (3, _)]) dM_readAll_98 rfl (Nat.le_of_ble_eq_true rfl) rfl ⟨rfl, rfl, rfl, rfl, trivial⟩ ?_
          refine j_goto (p2 := 48) dM_readAll_101 (by decide) ?_
          refine J.loc (lv' := [(0, _), (1, _), (2, _), (3, _)]) ⟨rfl, rfl, rfl, rfl, trivial⟩ ?_
          rw [eM] at h53
          rw [eV] at h63
          have e : ordl (hI σ 79) N l ++ rowl (hI σ 79) l (i + 1) = ordl (hI σ 79) N l ++ rowl (hI σ 79) l i := by
            show _ ++ (if _ then _ else _) = _
            rw [if_neg (by omega)]
          have ih3 := ih2 (by omega)
          rw [e] at ih3
          exact ih3 hG2
        · refine J.loc (lv' := [(0, _), (1, _), (2, _), (3, _)]) ⟨rfl, rfl, rfl, rfl, trivial⟩ ?_
          rw [eM] at h53
          rw [eV] at h63
          refine rd66 hw (by omega) hG2 (fun hG3 => ?_)
          have e : ordl (hI σ 79) N l ++ rowl (hI σ 79) l (i + 1) = ordl (hI σ 79) N l ++ rowl (hI σ 79) l i ++ [(i : Int)] := by
            show _ ++ (if _ then _ else _) = _
            rw [if_pos (by omega), List.append_assoc]
          have ih3 := ih2 (by omega)
          rw [e] at ih3
          refine j_iinc (p2 := 101) (lv' := [(0, _), (1, _), (2, _), (3, _)]) dM_readAll_98 rfl (Nat.le_of_ble_eq_true rfl) rfl ⟨rfl, rfl, rfl, rfl, trivial⟩ ?_
          refine j_goto (p2 := 48) dM_readAll_101 (by decide) ?_
          refine J.loc (lv' := [(0, _), (1, _), (2, _), (3, _)]) ⟨rfl, rfl, rfl, rfl, trivial⟩ ?_
          exact ih3 hG3
  have outer : ∀ (n l : Nat), (l : Int) ≤ gmost (hI σ 79) N + 1 → gmost (hI σ 79) N + 2 ≤ l + n → RdG σ (ordl (hI σ 79) N l) → J mM_readAll 41 [(0, vR 69), (1, vI (gmost (hI σ 79) N)), (2, vI l)] [] (rdH σ (ordl (hI σ 79) N l)) Q := by
    intro n
    have hmN := hmb N (Nat.le_refl N)
    induction n with
    | zero => intro l h1 h2; exact absurd h2 (by omega)
    | succ n ih =>
      intro l h1 h2 hG
      refine j_iload_n (p2 := 42) dM_readAll_41 rfl rfl ?_
      refine j_iload_n (p2 := 43) dM_readAll_42 rfl rfl ?_
      refine j_icmp_gt (p2 := 46) (tg := 110) dM_readAll_43 rfl (by decide) (by constructor <;> omega) (by constructor <;> omega) (fun h43 => ?_) (fun h43 => ?_)
      · refine j_return dM_readAll_110 rfl (by have e : l = (gmost (hI σ 79) N + 1).toNat := (by omega); subst e; exact hQ hG)
      · refine j_iconst (p2 := 47) dM_readAll_46 rfl ?_
        refine j_istore_n (p2 := 48) (lv' := [(0, _), (1, _), (2, _), (3, _)]) dM_readAll_47 rfl (Nat.le_of_ble_eq_true rfl) ⟨rfl, rfl, rfl, rfl, trivial⟩ ?_
        refine J.loc (lv' := [(0, _), (1, _), (2, _), (3, _)]) ⟨rfl, rfl, rfl, rfl, trivial⟩ ?_
        have := inner l (by omega) hG (fun g => ih (l + 1) (by omega) (by omega) g) (N + 1) 0 (by omega) (by omega)
        rw [show rowl (hI σ 79) l 0 = [] from rfl, List.append_nil] at this
        exact this hG
  have first : ∀ (n i : Nat), i ≤ N → N + 1 ≤ i + n → J mM_readAll 4 [(0, vR 69), (1, vI (gmost (hI σ 79) i)), (2, vI i)] [] σ Q := by
    intro n
    induction n with
    | zero => intro i h1 h2; exact absurd h2 (by omega)
    | succ n ih =>
      intro i h1 h2
      have hmi := hmb i h1
      have ex : i < N → -1 ≤ hI σ 79 i ∧ hI σ 79 i ≤ 20 := fun h => hlv i (by omega) (by omega)
      have ih2 : i < N → J mM_readAll 4 [(0, vR 69), (1, vI (if hI σ 79 i > gmost (hI σ 79) i then hI σ 79 i else gmost (hI σ 79) i)), (2, vI (i + 1))] [] σ Q := fun hi => ih (i + 1) (by omega) (by omega)
      refine j_iload_n (p2 := 5) dM_readAll_4 rfl rfl ?_
      refine j_aload_n (p2 := 6) dM_readAll_5 rfl rfl ?_
      refine j_getIk (p2 := 9) dM_readAll_6 rfl fa_M_158 ly_69 rfl (ki := 0) rfl ?_
      refine j_icmp_ge (p2 := 12) (tg := 39) dM_readAll_9 rfl (by decide) (by constructor <;> omega) (by constructor <;> omega) (fun h9 => ?_) (fun h9 => ?_)
      · refine j_iconst (p2 := 40) dM_readAll_39 rfl ?_
        refine j_istore_n (p2 := 41) (lv' := [(0, _), (1, _), (2, _)]) dM_readAll_40 rfl (Nat.le_of_ble_eq_true rfl) ⟨rfl, rfl, rfl, trivial⟩ ?_
        refine J.loc (lv' := [(0, _), (1, _), (2, _)]) ⟨rfl, rfl, rfl, trivial⟩ ?_
        have e : i = N := by omega
        subst e
        have := outer 30 0 (by omega) (by omega) hL0
        rw [show ordl (hI σ 79) i 0 = [] from rfl, e0] at this
        exact this
      · refine j_aload_n (p2 := 13) dM_readAll_12 rfl rfl ?_
        refine j_getR (p2 := 16) dM_readAll_13 rfl fa_M_39 ly_69 rfl ?_
        refine j_iload_n (p2 := 17) dM_readAll_16 rfl rfl ?_
        refine j_iald (p2 := 18) dM_readAll_17 rfl ly_79 (by decide) (by omega) (by omega) ?_
        refine j_iload_n (p2 := 19) dM_readAll_18 rfl rfl ?_
        refine j_icmp_le (p2 := 22) (tg := 31) dM_readAll_19 rfl (by decide) (by have := ex (by omega); constructor <;> omega) (by constructor <;> omega) (fun h19 => ?_) (fun h19 => ?_)
        · refine j_iload_n (p2 := 32) dM_readAll_31 rfl rfl ?_
          refine j_istore_n (p2 := 33) (lv' := [(0, _), (1, _), (2, _)]) dM_readAll_32 rfl (Nat.le_of_ble_eq_true rfl) ⟨rfl, rfl, rfl, trivial⟩ ?_
          refine j_iinc (p2 := 36) (lv' := [(0, _), (1, _), (2, _)]) dM_readAll_33 rfl (Nat.le_of_ble_eq_true rfl) rfl ⟨rfl, rfl, rfl, trivial⟩ ?_
          refine j_goto (p2 := 4) dM_readAll_36 (by decide) ?_
          refine J.loc (lv' := [(0, _), (1, _), (2, _)]) ⟨rfl, rfl, rfl, trivial⟩ ?_
          have ih3 := ih2 (by omega)
          first
            | (rw [if_pos (by omega)] at ih3; exact ih3)
            | (rw [if_neg (by omega)] at ih3; exact ih3)
        · refine j_aload_n (p2 := 23) dM_readAll_22 rfl rfl ?_
          refine j_getR (p2 := 26) dM_readAll_23 rfl fa_M_39 ly_69 rfl ?_
          refine j_iload_n (p2 := 27) dM_readAll_26 rfl rfl ?_
          refine j_iald (p2 := 28) dM_readAll_27 rfl ly_79 (by decide) (by omega) (by omega) ?_
          refine j_goto (p2 := 32) dM_readAll_28 (by decide) ?_
          refine j_istore_n (p2 := 33) (lv' := [(0, _), (1, _), (2, _)]) dM_readAll_32 rfl (Nat.le_of_ble_eq_true rfl) ⟨rfl, rfl, rfl, trivial⟩ ?_
          refine j_iinc (p2 := 36) (lv' := [(0, _), (1, _), (2, _)]) dM_readAll_33 rfl (Nat.le_of_ble_eq_true rfl) rfl ⟨rfl, rfl, rfl, trivial⟩ ?_
          refine j_goto (p2 := 4) dM_readAll_36 (by decide) ?_
          refine J.loc (lv' := [(0, _), (1, _), (2, _)]) ⟨rfl, rfl, rfl, trivial⟩ ?_
          have ih3 := ih2 (by omega)
          first
            | (rw [if_pos (by omega)] at ih3; exact ih3)
            | (rw [if_neg (by omega)] at ih3; exact ih3)
  refine j_iconst (p2 := 1) dM_readAll_0 rfl ?_
  refine j_istore_n (p2 := 2) (lv' := [(0, _), (1, _)]) dM_readAll_1 rfl (Nat.le_of_ble_eq_true rfl) ⟨rfl, rfl, trivial⟩ ?_
  refine j_iconst (p2 := 3) dM_readAll_2 rfl ?_
  refine j_istore_n (p2 := 4) (lv' := [(0, _), (1, _), (2, _)]) dM_readAll_3 rfl (Nat.le_of_ble_eq_true rfl) ⟨rfl, rfl, rfl, trivial⟩ ?_
  refine J.loc (lv' := [(0, _), (1, _), (2, _)]) ⟨rfl, rfl, rfl, trivial⟩ ?_
  exact first (N + 1) 0 (by omega) (by omega)
end REF6
