/-! ===== levels, as the reference finds them ===== -/
def lvI (fr lv : Int → Int) (m : Int) : Nat → Int × Bool
  | 0 => (0, true)
  | i + 1 => if fr (6 * m + (i : Int)) = -1 then lvI fr lv m i else (if lv (fr (6 * m + (i : Int))) > (lvI fr lv m i).1 then lv (fr (6 * m + (i : Int))) else (lvI fr lv m i).1, (lvI fr lv m i).2 && decide (¬ lv (fr (6 * m + (i : Int))) = -1))
def lvM (fr lv : Int → Int) (m : Int) : Int → Int := if lv m = -1 then fup lv m (if (lvI fr lv m 6).2 = true then (lvI fr lv m 6).1 + 1 else -1) else lv
def lvP (fr lv : Int → Int) : Nat → Int → Int
  | 0 => lv
  | i + 1 => lvM fr (lvP fr lv i) i
def lvT (fr lv : Int → Int) (N : Nat) : Nat → Int → Int
  | 0 => lv
  | t + 1 => lvP fr (lvT fr lv N t) N
def lv0 (kd lv : Int → Int) (N : Nat) : Int → Int := pw lv (fun m => if rem (kd m) then 0 else -1) N
def lvs (kd fr lv : Int → Int) (N : Nat) : Int → Int := lvT fr (lv0 kd lv N) N N
/-- how many have a level -/
def cnt (lv : Int → Int) : Nat → Int
  | 0 => 0
  | i + 1 => cnt lv i + (if lv i = -1 then 0 else 1)
theorem cnt_b (lv : Int → Int) : ∀ n : Nat, 0 ≤ cnt lv n ∧ cnt lv n ≤ n
  | 0 => by show (0 : Int) ≤ 0 ∧ (0 : Int) ≤ 0; decide
  | i + 1 => by
    have ih := cnt_b lv i
    show 0 ≤ cnt lv i + (if lv i = -1 then 0 else 1) ∧ cnt lv i + (if lv i = -1 then 0 else 1) ≤ ((i + 1 : Nat) : Int)
    by_cases h : lv i = -1
    · rw [if_pos h]; omega
    · rw [if_neg h]; omega
theorem cnt_n {lv : Int → Int} {m v : Int} : ∀ n : Nat, (n : Int) ≤ m → cnt (fup lv m v) n = cnt lv n
  | 0, _ => rfl
  | i + 1, h => by
    show cnt (fup lv m v) i + (if fup lv m v i = -1 then 0 else 1) = cnt lv i + (if lv i = -1 then 0 else 1)
    rw [cnt_n i (by omega), fup_n (by omega)]
theorem cnt_s {lv : Int → Int} {m v : Int} (h0 : 0 ≤ m) (h1 : lv m = -1) (h2 : ¬ v = -1) : ∀ n : Nat, m < n → cnt (fup lv m v) n = cnt lv n + 1
  | 0, h => absurd h (by omega)
  | i + 1, h => by
    show cnt (fup lv m v) i + (if fup lv m v i = -1 then 0 else 1) = cnt lv i + (if lv i = -1 then 0 else 1) + 1
    by_cases e : m = i
    · subst e
      rw [cnt_n i (by omega), fup_s, if_neg h2, if_pos h1]
      omega
    · rw [cnt_s h0 h1 h2 i (by omega), fup_n (by omega)]
      omega
/-- cords of the modules below N come from such -/
abbrev CdN (fr : Int → Int) (N : Nat) : Prop := ∀ m : Int, 0 ≤ m → m < N → ∀ j : Int, 0 ≤ j → j < 6 → -1 ≤ fr (6 * m + j) ∧ fr (6 * m + j) < N
abbrev LvB (lv : Int → Int) (N : Nat) : Prop := ∀ m : Int, 0 ≤ m → m < N → -1 ≤ lv m ∧ lv m ≤ cnt lv N
theorem lvI_b {fr lv : Int → Int} {m : Int} {N : Nat} (hc : CdN fr N) (hm : 0 ≤ m ∧ m < N) (hl : LvB lv N) : ∀ i : Nat, i ≤ 6 → 0 ≤ (lvI fr lv m i).1 ∧ (lvI fr lv m i).1 ≤ cnt lv N
  | 0, _ => ⟨Int.le_refl 0, (cnt_b lv N).1⟩
  | i + 1, hi => by
    have ih := lvI_b hc hm hl i (by omega)
    show 0 ≤ (if _ then _ else _ : Int × Bool).1 ∧ (if _ then _ else _ : Int × Bool).1 ≤ _
    by_cases h : fr (6 * m + (i : Int)) = -1
    · rw [if_pos h]; exact ih
    · rw [if_neg h]
      have hb := hc m hm.1 hm.2 i (by omega) (by omega)
      have hb2 := hl (fr (6 * m + (i : Int))) (by omega) (by omega)
      show 0 ≤ (if _ then _ else _ : Int) ∧ (if _ then _ else _ : Int) ≤ _
      by_cases g : lv (fr (6 * m + (i : Int))) > (lvI fr lv m i).1
      · rw [if_pos g]; omega
      · rw [if_neg g]; exact ih
theorem lvM_b {fr lv : Int → Int} {m : Int} {N : Nat} (hc : CdN fr N) (hm : 0 ≤ m ∧ m < N) (hl : LvB lv N) : LvB (lvM fr lv m) N := by
  unfold lvM
  by_cases h : lv m = -1
  · rw [if_pos h]
    have hb := lvI_b hc hm hl 6 (by omega)
    by_cases g : (lvI fr lv m 6).2 = true
    · rw [if_pos g]
      intro k k0 k1
      rw [cnt_s hm.1 h (by omega) N hm.2]
      unfold fup
      by_cases e : k = m
      · rw [if_pos e]; omega
      · rw [if_neg e]; have := hl k k0 k1; omega
    · rw [if_neg g]
      have e : fup lv m (-1) = lv := by
        funext k; unfold fup
        by_cases e : k = m
        · rw [if_pos e, e, h]
        · rw [if_neg e]
      rw [e]; exact hl
  · rw [if_neg h]; exact hl
theorem lvP_b {fr lv : Int → Int} {N : Nat} (hc : CdN fr N) (hl : LvB lv N) : ∀ i : Nat, i ≤ N → LvB (lvP fr lv i) N
  | 0, _ => hl
  | i + 1, h => lvM_b hc (by omega) (lvP_b hc hl i (by omega))
theorem lvT_b {fr lv : Int → Int} {N : Nat} (hc : CdN fr N) (hl : LvB lv N) : ∀ t : Nat, LvB (lvT fr lv N t) N
  | 0 => hl
  | t + 1 => lvP_b hc (lvT_b hc hl t) N (Nat.le_refl N)
theorem lv0_b {kd lv : Int → Int} {N : Nat} : LvB (lv0 kd lv N) N := fun m h0 h1 => by
  have := cnt_b (lv0 kd lv N) N
  have e : lv0 kd lv N m = if rem (kd m) then 0 else -1 := pw_lo h0 h1
  rw [e]
  by_cases h : rem (kd m)
  · rw [if_pos h]; omega
  · rw [if_neg h]; omega
theorem lvs_b {kd fr lv : Int → Int} {N : Nat} (hc : CdN fr N) : LvB (lvs kd fr lv N) N := lvT_b hc lv0_b N
section REF15
variable {σ : Hp} {Q : Option PV → Hp → Prop} {N : Nat}
theorem lv_in {lv : Int → Int} {t m : Int} (hN2 : N ≤ 20) (hc : CdN (hI σ 72) N) (hm : 0 ≤ m ∧ m < N) (hl : LvB lv N) (h1 : lv m = -1) (k : J mM_levelAll 168 [(0, vR 69), (1, vI t), (2, vI m)] [] (wI σ 79 (lvM (hI σ 72) lv m)) Q) : J mM_levelAll 69 [(0, vR 69), (1, vI t), (2, vI m)] [] (wI σ 79 lv) Q := by
  have hcb := cnt_b lv N
  unfold lvM at k
  rw [if_pos h1] at k
  have loop : ∀ (n i : Nat), i ≤ 6 → 7 ≤ i + n → J mM_levelAll 77 [(0, vR 69), (1, vI t), (2, vI m), (3, vI (lvI (hI σ 72) lv m i).1), (4, vI (bI (lvI (hI σ 72) lv m i).2)), (5, vI i)] [] (wI σ 79 lv) Q := by
    intro n
    induction n with
    | zero => intro i h1 h2; exact absurd h2 (by omega)
    | succ n ih =>
      intro i hi1 hi2
      have hb := lvI_b hc hm hl i hi1
      have ci : i < 6 → -1 ≤ hI σ 72 (6 * m + i) ∧ hI σ 72 (6 * m + i) < N := fun h => hc m hm.1 hm.2 i (by omega) (by omega)
      have li : i < 6 → ¬ hI σ 72 (6 * m + i) = -1 → -1 ≤ lv (hI σ 72 (6 * m + i)) ∧ lv (hI σ 72 (6 * m + i)) ≤ 20 := fun h g => by
        have a := ci h
        have b := hl (hI σ 72 (6 * m + i)) (by omega) (by omega)
        omega
      have eL : hI (wI σ 79 lv) 79 = lv := rfl
      have eC : hI (wI σ 79 lv) 72 = hI σ 72 := rfl
      have k0 : i < 6 → hI σ 72 (6 * m + i) = -1 → J mM_levelAll 77 [(0, vR 69), (1, vI t), (2, vI m), (3, vI (lvI (hI σ 72) lv m i).1), (4, vI (bI (lvI (hI σ 72) lv m i).2)), (5, vI (i + 1))] [] (wI σ 79 lv) Q := fun h g => by
        have := ih (i + 1) (by omega) (by omega)
        have e : lvI (hI σ 72) lv m (i + 1) = lvI (hI σ 72) lv m i := if_pos g
        rw [e] at this; exact this
      have kk : i < 6 → ¬ hI σ 72 (6 * m + i) = -1 → ∀ (X : Int) (b : Bool), (if lv (hI σ 72 (6 * m + i)) > (lvI (hI σ 72) lv m i).1 then lv (hI σ 72 (6 * m + i)) else (lvI (hI σ 72) lv m i).1) = X → ((lvI (hI σ 72) lv m i).2 && decide (¬ lv (hI σ 72 (6 * m + i)) = -1)) = b → J mM_levelAll 77 [(0, vR 69), (1, vI t), (2, vI m), (3, vI X), (4, vI (bI b)), (5, vI (i + 1))] [] (wI σ 79 lv) Q := fun h g X b hX hb => by
        have := ih (i + 1) (by omega) (by omega)
        have e : lvI (hI σ 72) lv m (i + 1) = (X, b) := by
          rw [← hX, ← hb]; exact if_neg g
        rw [e] at this; exact this
      refine j_iload (p2 := 79) dM_levelAll_77 rfl rfl ?_
      refine j_bipush (v := 6) (p2 := 81) dM_levelAll_79 rfl rfl ?_
      refine j_icmp_ge (p2 := 84) (tg := 150) dM_levelAll_81 rfl (by decide) (by constructor <;> omega) (by constructor <;> omega) (fun h81 => ?_) (fun h81 => ?_)
      · refine j_aload_n (p2 := 151) dM_levelAll_150 rfl rfl ?_
        refine j_getR (p2 := 154) dM_levelAll_151 rfl fa_M_39 ly_69 rfl ?_
        refine j_iload_n (p2 := 155) dM_levelAll_154 rfl rfl ?_
        refine j_iload (p2 := 157) dM_levelAll_155 rfl rfl ?_
        refine j_ifb_eq (p2 := 160) (tg := 166) dM_levelAll_157 rfl (by decide) (fun h157 => ?_) (fun h157 => ?_)
        · refine j_iconst (p2 := 167) dM_levelAll_166 rfl ?_
          refine j_iastk (p2 := 168) dM_levelAll_167 rfl ly_79 (by decide) (by omega) (by omega) ?_
          refine J.loc (lv' := [(0, _), (1, _), (2, _)]) ⟨rfl, rfl, rfl, trivial⟩ ?_
          have e6 : i = 6 := by omega
          subst e6
          rw [wI_wI]
          first
            | (rw [if_pos h157] at k; exact k)
            | (rw [if_neg (by rw [h157]; decide)] at k; exact k)
        · refine j_iload_n (p2 := 161) dM_levelAll_160 rfl rfl ?_
          refine j_iconst (p2 := 162) dM_levelAll_161 rfl ?_
          refine j_iadd (p2 := 163) dM_levelAll_162 rfl ?_
          refine j_goto (p2 := 167) dM_levelAll_163 (by decide) ?_
          refine j_iastk (p2 := 168) dM_levelAll_167 rfl ly_79 (by decide) (by omega) (by omega) ?_
          refine J.loc (lv' := [(0, _), (1, _), (2, _)]) ⟨rfl, rfl, rfl, trivial⟩ ?_
          have e6 : i = 6 := by omega
          subst e6
          rw [wI_wI]
          first
            | (rw [if_pos h157] at k; exact k)
            | (rw [if_neg (by rw [h157]; decide)] at k; exact k)
      · refine j_aload_n (p2 := 85) dM_levelAll_84 rfl rfl ?_
        refine j_iload_n (p2 := 86) dM_levelAll_85 rfl rfl ?_
        refine j_iload (p2 := 88) dM_levelAll_86 rfl rfl ?_
        refine j_callV (m' := mM_has) (As := [_, _]) (p2 := 91) dM_levelAll_88 rfl ml_M_213 ok_mM_has im_mM_has se_mM_has rfl rfl (Nat.le_of_ble_eq_true rfl) ly_69 rfl (Nat.le_of_ble_eq_true rfl) ⟨(Nat.le_of_ble_eq_true rfl), (Nat.le_of_ble_eq_true rfl)⟩ ?_
        refine cM_has (by omega) (by omega) (by have a := ci (by omega); rw [eC]; constructor <;> omega) ?_
        refine j_ifb_eq (p2 := 94) (tg := 144) dM_levelAll_91 rfl (by decide) (fun h91 => ?_) (fun h91 => ?_)
        · refine j_iinc (p2 := 147) (lv' := [(0, _), (1, _), (2, _), (3, _), (4, _), (5, _)]) dM_levelAll_144 rfl (Nat.le_of_ble_eq_true rfl) rfl ⟨rfl, rfl, rfl, rfl, rfl, rfl, trivial⟩ ?_
          refine j_goto (p2 := 77) dM_levelAll_147 (by decide) ?_
          refine J.loc (lv' := [(0, _), (1, _), (2, _), (3, _), (4, _), (5, _)]) ⟨rfl, rfl, rfl, rfl, rfl, rfl, trivial⟩ ?_
          first
            | exact k0 (by omega) (dec_f h91)
            | (have b := dec_t h91
               rw [eC, eL] at h134
               try rw [eC, eL] at h121
               first
                 | exact kk (by omega) b _ true (by first | exact if_pos (by omega) | exact if_neg (by omega)) (by rw [h115, decide_eq_true (by omega)]; rfl)
                 | exact kk (by omega) b _ false (by first | exact if_pos (by omega) | exact if_neg (by omega)) (by rw [h115]; rfl)
                 | exact kk (by omega) b _ false (by first | exact if_pos (by omega) | exact if_neg (by omega)) (by rw [h115, decide_eq_false (by omega)]; rfl))
        · refine j_aload_n (p2 := 95) dM_levelAll_94 rfl rfl ?_
          refine j_getR (p2 := 98) dM_levelAll_95 rfl fa_M_39 ly_69 rfl ?_
          refine j_aload_n (p2 := 99) dM_levelAll_98 rfl rfl ?_
          refine j_getR (p2 := 102) dM_levelAll_99 rfl fa_M_17 ly_69 rfl ?_
          refine j_bipush (v := 6) (p2 := 104) dM_levelAll_102 rfl rfl ?_
          refine j_iload_n (p2 := 105) dM_levelAll_104 rfl rfl ?_
          refine j_imul (p2 := 106) dM_levelAll_105 rfl ?_
          refine j_iload (p2 := 108) dM_levelAll_106 rfl rfl ?_
          refine j_iadd (p2 := 109) dM_levelAll_108 rfl ?_
          refine j_iald (p2 := 110) dM_levelAll_109 rfl ly_72 (by decide) (by omega) (by omega) ?_
          refine j_iald (p2 := 111) dM_levelAll_110 rfl ly_79 (by decide) (by have a := ci (by omega); have b := dec_t h91; rw [eC] at b ⊢; omega) (by have a := ci (by omega); rw [eC]; omega) ?_
          refine j_istore (p2 := 113) (lv' := [(0, _), (1, _), (2, _), (3, _), (4, _), (5, _), (6, _)]) dM_levelAll_111 rfl (Nat.le_of_ble_eq_true rfl) ⟨rfl, rfl, rfl, rfl, rfl, rfl, rfl, trivial⟩ ?_
          refine j_iload (p2 := 115) dM_levelAll_113 rfl rfl ?_
          refine j_ifb_eq (p2 := 118) (tg := 128) dM_levelAll_115 rfl (by decide) (fun h115 => ?_) (fun h115 => ?_)
          · refine j_iconst (p2 := 129) dM_levelAll_128 rfl ?_
            refine j_istore (p2 := 131) (lv' := [(0, _), (1, _), (2, _), (3, _), (4, _), (5, _), (6, _)]) dM_levelAll_129 rfl (Nat.le_of_ble_eq_true rfl) ⟨rfl, rfl, rfl, rfl, rfl, rfl, rfl, trivial⟩ ?_
            refine j_iload (p2 := 133) dM_levelAll_131 rfl rfl ?_
            refine j_iload_n (p2 := 134) dM_levelAll_133 rfl rfl ?_
            refine j_icmp_le (p2 := 137) (tg := 142) dM_levelAll_134 rfl (by decide) (by have b := dec_t h91; rw [eC] at b ⊢; rw [eL]; have a := li (by omega) b; constructor <;> omega) (by constructor <;> omega) (fun h134 => ?_) (fun h134 => ?_)
            · refine j_iload_n (p2 := 143) dM_levelAll_142 rfl rfl ?_
              refine j_istore_n (p2 := 144) (lv' := [(0, _), (1, _), (2, _), (3, _), (4, _), (5, _)]) dM_levelAll_143 rfl (Nat.le_of_ble_eq_true rfl) ⟨rfl, rfl, rfl, rfl, rfl, rfl, trivial⟩ ?_
              refine j_iinc (p2 := 147) (lv' := [(0, _), (1, _), (2, _), (3, _), (4, _), (5, _)]) dM_levelAll_144 rfl (Nat.le_of_ble_eq_true rfl) rfl ⟨rfl, rfl, rfl, rfl, rfl, rfl, trivial⟩ ?_
              refine j_goto (p2 := 77) dM_levelAll_147 (by decide) ?_
              refine J.loc (lv' := [(0, _), (1, _), (2, _), (3, _), (4, _), (5, _)]) ⟨rfl, rfl, rfl, rfl, rfl, rfl, trivial⟩ ?_
              first
                | exact k0 (by omega) (dec_f h91)
                | (have b := dec_t h91
                   rw [eC, eL] at h134
                   try rw [eC, eL] at h121
                   first
                     | exact kk (by omega) b _ true (by first | exact if_pos (by omega) | exact if_neg (by omega)) (by rw [h115, decide_eq_true (by omega)]; rfl)
                     | exact kk (by omega) b _ false (by first | exact if_pos (by omega) | exact if_neg (by omega)) (by rw [h115]; rfl)
                     | exact kk (by omega) b _ false (by first | exact if_pos (by omega) | exact if_neg (by omega)) (by rw [h115, decide_eq_false (by omega)]; rfl))
            · refine j_iload (p2 := 139) dM_levelAll_137 rfl rfl ?_
              refine j_goto (p2 := 143) dM_levelAll_139 (by decide) ?_
              refine j_istore_n (p2 := 144) (lv' := [(0, _), (1, _), (2, _), (3, _), (4, _), (5, _)]) dM_levelAll_143 rfl (Nat.le_of_ble_eq_true rfl) ⟨rfl, rfl, rfl, rfl, rfl, rfl, trivial⟩ ?_
              refine j_iinc (p2 := 147) (lv' := [(0, _), (1, _), (2, _), (3, _), (4, _), (5, _)]) dM_levelAll_144 rfl (Nat.le_of_ble_eq_true rfl) rfl ⟨rfl, rfl, rfl, rfl, rfl, rfl, trivial⟩ ?_
              refine j_goto (p2 := 77) dM_levelAll_147 (by decide) ?_
              refine J.loc (lv' := [(0, _), (1, _), (2, _), (3, _), (4, _), (5, _)]) ⟨rfl, rfl, rfl, rfl, rfl, rfl, trivial⟩ ?_
              first
                | exact k0 (by omega) (dec_f h91)
                | (have b := dec_t h91
                   rw [eC, eL] at h134
                   try rw [eC, eL] at h121
                   first
                     | exact kk (by omega) b _ true (by first | exact if_pos (by omega) | exact if_neg (by omega)) (by rw [h115, decide_eq_true (by omega)]; rfl)
                     | exact kk (by omega) b _ false (by first | exact if_pos (by omega) | exact if_neg (by omega)) (by rw [h115]; rfl)
                     | exact kk (by omega) b _ false (by first | exact if_pos (by omega) | exact if_neg (by omega)) (by rw [h115, decide_eq_false (by omega)]; rfl))
          · refine j_iload (p2 := 120) dM_levelAll_118 rfl rfl ?_
            refine j_iconst (p2 := 121) dM_levelAll_120 rfl ?_
            refine j_icmp_eq (p2 := 124) (tg := 128) dM_levelAll_121 rfl (by decide) (by have b := dec_t h91; rw [eC] at b ⊢; rw [eL]; have a := li (by omega) b; constructor <;> omega) (by constructor <;> omega) (fun h121 => ?_) (fun h121 => ?_)
            · refine j_iconst (p2 := 129) dM_levelAll_128 rfl ?_
              refine j_istore (p2 := 131) (lv' := [(0, _), (1, _), (2, _), (3, _), (4, _), (5, _), (6, _)]) dM_levelAll_129 rfl (Nat.le_of_ble_eq_true rfl) ⟨rfl, rfl, rfl, rfl, rfl, rfl, rfl, trivial⟩ ?_
              refine j_iload (p2 := 133) dM_levelAll_131 rfl rfl ?_
              refine j_iload_n (p2 := 134) dM_levelAll_133 rfl rfl ?_
              refine j_icmp_le (p2 := 137) (tg := 142) dM_levelAll_134 rfl (by decide) (by have b := dec_t h91; rw [eC] at b ⊢; rw [eL]; have a := li (by omega) b; constructor <;> omega) (by constructor <;> omega) (fun h134 => ?_) (fun h134 => ?_)
              · refine j_iload_n (p2 := 143) dM_levelAll_142 rfl rfl ?_
                refine j_istore_n (p2 := 144) (lv' := [(0, _), (1, _), (2, _), (3, _), (4, _), (5, _)]) dM_levelAll_143 rfl (Nat.le_of_ble_eq_true rfl) ⟨rfl, rfl, rfl, rfl, rfl, rfl, trivial⟩ ?_
                refine j_iinc (p2 := 147) (lv' := [(0, _), (1, _), (2, _), (3, _), (4, _), (5, _)]) dM_levelAll_144 rfl (Nat.le_of_ble_eq_true rfl) rfl ⟨rfl, rfl, rfl, rfl, rfl, rfl, trivial⟩ ?_
                refine j_goto (p2 := 77) dM_levelAll_147 (by decide) ?_
                refine J.loc (lv' := [(0, _), (1, _), (2, _), (3, _), (4, _), (5, _)]) ⟨rfl, rfl, rfl, rfl, rfl, rfl, trivial⟩ ?_
                first
                  | exact k0 (by omega) (dec_f h91)
                  | (have b := dec_t h91
                     rw [eC, eL] at h134
                     try rw [eC, eL] at h121
                     first
                       | exact kk (by omega) b _ true (by first | exact if_pos (by omega) | exact if_neg (by omega)) (by rw [h115, decide_eq_true (by omega)]; rfl)
                       | exact kk (by omega) b _ false (by first | exact if_pos (by omega) | exact if_neg (by omega)) (by rw [h115]; rfl)
                       | exact kk (by omega) b _ false (by first | exact if_pos (by omega) | exact if_neg (by omega)) (by rw [h115, decide_eq_false (by omega)]; rfl))
              · refine j_iload (p2 := 139) dM_levelAll_137 rfl rfl ?_
                refine j_goto (p2 := 143) dM_levelAll_139 (by decide) ?_
                refine j_istore_n (p2 := 144) (lv' := [(0, _), (1, _), (2, _), (3, _), (4, _), (5, _)]) dM_levelAll_143 rfl (Nat.le_of_ble_eq_true rfl) ⟨rfl, rfl, rfl, rfl, rfl, rfl, trivial⟩ ?_
                refine j_iinc (p2 := 147) (lv' := [(0, _), (1, _), (2, _), (3, _), (4, _), (5, _)]) dM_levelAll_144 rfl (Nat.le_of_ble_eq_true rfl) rfl ⟨rfl, rfl, rfl, rfl, rfl, rfl, trivial⟩ ?_
                refine j_goto (p2 := 77) dM_levelAll_147 (by decide) ?_
                refine J.loc (lv' := [(0, _), (1, _), (2, _), (3, _), (4, _), (5, _)]) ⟨rfl, rfl, rfl, rfl, rfl, rfl, trivial⟩ ?_
                first
                  | exact k0 (by omega) (dec_f h91)
                  | (have b := dec_t h91
                     rw [eC, eL] at h134
                     try rw [eC, eL] at h121
                     first
                       | exact kk (by omega) b _ true (by first | exact if_pos (by omega) | exact if_neg (by omega)) (by rw [h115, decide_eq_true (by omega)]; rfl)
                       | exact kk (by omega) b _ false (by first | exact if_pos (by omega) | exact if_neg (by omega)) (by rw [h115]; rfl)
                       | exact kk (by omega) b _ false (by first | exact if_pos (by omega) | exact if_neg (by omega)) (by rw [h115, decide_eq_false (by omega)]; rfl))
            · refine j_iconst (p2 := 125) dM_levelAll_124 rfl ?_
              refine j_goto (p2 := 129) dM_levelAll_125 (by decide) ?_
              refine j_istore (p2 := 131) (lv' := [(0, _), (1, _), (2, _), (3, _), (4, _), (5, _), (6, _)]) dM_levelAll_129 rfl (Nat.le_of_ble_eq_true rfl) ⟨rfl, rfl, rfl, rfl, rfl, rfl, rfl, trivial⟩ ?_
              refine j_iload (p2 := 133) dM_levelAll_131 rfl rfl ?_
              refine j_iload_n (p2 := 134) dM_levelAll_133 rfl rfl ?_
              refine j_icmp_le (p2 := 137) (tg := 142) dM_levelAll_134 rfl (by decide) (by have b := dec_t h91; rw [eC] at b ⊢; rw [eL]; have a := li (by omega) b; constructor <;> omega) (by constructor <;> omega) (fun h134 => ?_) (fun h134 => ?_)
              · refine j_iload_n (p2 := 143) dM_levelAll_142 rfl rfl ?_
                refine j_istore_n (p2 := 144) (lv' := [(0, _), (1, _), (2, _), (3, _), (4, _), (5, _)]) dM_levelAll_143 rfl (Nat.le_of_ble_eq_true rfl) ⟨rfl, rfl, rfl, rfl, rfl, rfl, trivial⟩ ?_
                refine j_iinc (p2 := 147) (lv' := [(0, _), (1, _), (2, _), (3, _), (4, _), (5, _)]) dM_levelAll_144 rfl (Nat.le_of_ble_eq_true rfl) rfl ⟨rfl, rfl, rfl, rfl, rfl, rfl, trivial⟩ ?_
                refine j_goto (p2 := 77) dM_levelAll_147 (by decide) ?_
                refine J.loc (lv' := [(0, _), (1, _), (2, _), (3, _), (4, _), (5, _)]) ⟨rfl, rfl, rfl, rfl, rfl, rfl, trivial⟩ ?_
                first
                  | exact k0 (by omega) (dec_f h91)
                  | (have b := dec_t h91
                     rw [eC, eL] at h134
                     try rw [eC, eL] at h121
                     first
                       | exact kk (by omega) b _ true (by first | exact if_pos (by omega) | exact if_neg (by omega)) (by rw [h115, decide_eq_true (by omega)]; rfl)
                       | exact kk (by omega) b _ false (by first | exact if_pos (by omega) | exact if_neg (by omega)) (by rw [h115]; rfl)
                       | exact kk (by omega) b _ false (by first | exact if_pos (by omega) | exact if_neg (by omega)) (by rw [h115, decide_eq_false (by omega)]; rfl))
              · refine j_iload (p2 := 139) dM_levelAll_137 rfl rfl ?_
                refine j_goto (p2 := 143) dM_levelAll_139 (by decide) ?_
                refine j_istore_n (p2 := 144) (lv' := [(0, _), (1, _), (2, _), (3, _), (4, _), (5, _)]) dM_levelAll_143 rfl (Nat.le_of_ble_eq_true rfl) ⟨rfl, rfl, rfl, rfl, rfl, rfl, trivial⟩ ?_
                refine j_iinc (p2 := 147) (lv' := [(0, _), (1, _), (2, _), (3, _), (4, _), (5, _)]) dM_levelAll_144 rfl (Nat.le_of_ble_eq_true rfl) rfl ⟨rfl, rfl, rfl, rfl, rfl, rfl, trivial⟩ ?_
                refine j_goto (p2 := 77) dM_levelAll_147 (by decide) ?_
                refine J.loc (lv' := [(0, _), (1, _), (2, _), (3, _), (4, _), (5, _)]) ⟨rfl, rfl, rfl, rfl, rfl, rfl, trivial⟩ ?_
                first
                  | exact k0 (by omega) (dec_f h91)
                  | (have b := dec_t h91
                     rw [eC, eL] at h134
                     try rw [eC, eL] at h121
                     first
                       | exact kk (by omega) b _ true (by first | exact if_pos (by omega) | exact if_neg (by omega)) (by rw [h115, decide_eq_true (by omega)]; rfl)
                       | exact kk (by omega) b _ false (by first | exact if_pos (by omega) | exact if_neg (by omega)) (by rw [h115]; rfl)
                       | exact kk (by omega) b _ false (by first | exact if_pos (by omega) | exact if_neg (by omega)) (by rw [h115, decide_eq_false (by omega)]; rfl))
  refine j_iconst (p2 := 70) dM_levelAll_69 rfl ?_
  refine j_istore_n (p2 := 71) (lv' := [(0, _), (1, _), (2, _), (3, _)]) dM_levelAll_70 rfl (Nat.le_of_ble_eq_true rfl) ⟨rfl, rfl, rfl, rfl, trivial⟩ ?_
  refine j_iconst (p2 := 72) dM_levelAll_71 rfl ?_
  refine j_istore (p2 := 74) (lv' := [(0, _), (1, _), (2, _), (3, _), (4, _)]) dM_levelAll_72 rfl (Nat.le_of_ble_eq_true rfl) ⟨rfl, rfl, rfl, rfl, rfl, trivial⟩ ?_
  refine j_iconst (p2 := 75) dM_levelAll_74 rfl ?_
  refine j_istore (p2 := 77) (lv' := [(0, _), (1, _), (2, _), (3, _), (4, _), (5, _)]) dM_levelAll_75 rfl (Nat.le_of_ble_eq_true rfl) ⟨rfl, rfl, rfl, rfl, rfl, rfl, trivial⟩ ?_
  refine J.loc (lv' := [(0, _), (1, _), (2, _), (3, _), (4, _), (5, _)]) ⟨rfl, rfl, rfl, rfl, rfl, rfl, trivial⟩ ?_
  exact loop 7 0 (by omega) (by omega)
theorem cM_levelAll (hN : hI σ 69 0 = N ∧ N ≤ 20) (hc : CdN (hI σ 72) N) (hk : ∀ m : Int, 0 ≤ m → m < N → inR (hI σ 70 m)) (hQ : Q none (wI σ 79 (lvs (hI σ 70) (hI σ 72) (hI σ 79) N))) : Sp mM_levelAll [vR 69] σ Q := by
  obtain ⟨hN, hN2⟩ := hN
  have inner : ∀ (t : Nat) (lv : Int → Int), LvB lv N → (t : Int) ≤ 20 → (J mM_levelAll 41 [(0, vR 69), (1, vI (t + 1))] [] (wI σ 79 (lvP (hI σ 72) lv N)) Q) → ∀ (n i : Nat), i ≤ N → N + 1 ≤ i + n → J mM_levelAll 51 [(0, vR 69), (1, vI t), (2, vI i)] [] (wI σ 79 (lvP (hI σ 72) lv i)) Q := by
    intro t lv hl ht k n
    induction n with
    | zero => intro i h1 h2; exact absurd h2 (by omega)
    | succ n ih =>
      intro i h1 h2
      have hli := lvP_b hc hl i h1
      have hcb := cnt_b (lvP (hI σ 72) lv i) N
      have lb : i < N → -1 ≤ lvP (hI σ 72) lv i i ∧ lvP (hI σ 72) lv i i ≤ cnt (lvP (hI σ 72) lv i) N := fun h => hli i (by omega) (by omega)
      have eN : hI (wI σ 79 (lvP (hI σ 72) lv i)) 69 0 = N := hN
      have eL : hI (wI σ 79 (lvP (hI σ 72) lv i)) 79 = lvP (hI σ 72) lv i := rfl
      have ih2 : i < N → J mM_levelAll 51 [(0, vR 69), (1, vI t), (2, vI (i + 1))] [] (wI σ 79 (lvM (hI σ 72) (lvP (hI σ 72) lv i) i)) Q := fun h => ih (i + 1) (by omega) (by omega)
      refine j_iload_n (p2 := 52) dM_levelAll_51 rfl rfl ?_
      refine j_aload_n (p2 := 53) dM_levelAll_52 rfl rfl ?_
      refine j_getIk (p2 := 56) dM_levelAll_53 rfl fa_M_158 ly_69 rfl (ki := 0) rfl ?_
      refine j_icmp_ge (p2 := 59) (tg := 174) dM_levelAll_56 rfl (by decide) (by constructor <;> omega) (by rw [eN]; constructor <;> omega) (fun h56 => ?_) (fun h56 => ?_)
      · refine j_iinc (p2 := 177) (lv' := [(0, _), (1, _)]) dM_levelAll_174 rfl (Nat.le_of_ble_eq_true rfl) rfl ⟨rfl, rfl, trivial⟩ ?_
        refine j_goto (p2 := 41) dM_levelAll_177 (by decide) ?_
        refine J.loc (lv' := [(0, _), (1, _)]) ⟨rfl, rfl, trivial⟩ ?_
        rw [eN] at h56
        have e : i = N := by omega
        subst e
        exact k
      · refine j_aload_n (p2 := 60) dM_levelAll_59 rfl rfl ?_
        refine j_getR (p2 := 63) dM_levelAll_60 rfl fa_M_39 ly_69 rfl ?_
        refine j_iload_n (p2 := 64) dM_levelAll_63 rfl rfl ?_
        refine j_iald (p2 := 65) dM_levelAll_64 rfl ly_79 (by decide) (by omega) (by rw [eN] at h56; omega) ?_
        refine j_iconst (p2 := 66) dM_levelAll_65 rfl ?_
        refine j_icmp_ne (p2 := 69) (tg := 168) dM_levelAll_66 rfl (by decide) (by rw [eN] at h56; rw [eL]; have := lb (by omega); constructor <;> omega) (by constructor <;> omega) (fun h66 => ?_) (fun h66 => ?_)
        · refine j_iinc (p2 := 171) (lv' := [(0, _), (1, _), (2, _)]) dM_levelAll_168 rfl (Nat.le_of_ble_eq_true rfl) rfl ⟨rfl, rfl, rfl, trivial⟩ ?_
          refine j_goto (p2 := 51) dM_levelAll_171 (by decide) ?_
          refine J.loc (lv' := [(0, _), (1, _), (2, _)]) ⟨rfl, rfl, rfl, trivial⟩ ?_
          rw [eN] at h56
          rw [eL] at h66
          have ih3 := ih2 (by omega)
          unfold lvM at ih3
          rw [if_neg (by omega)] at ih3
          exact ih3
        · refine J.loc (lv' := [(0, _), (1, _), (2, _)]) ⟨rfl, rfl, rfl, trivial⟩ ?_
          rw [eN] at h56
          rw [eL] at h66
          refine lv_in hN2 hc (by omega) hli (by omega) ?_
          refine j_iinc (p2 := 171) (lv' := [(0, _), (1, _), (2, _)]) dM_levelAll_168 rfl (Nat.le_of_ble_eq_true rfl) rfl ⟨rfl, rfl, rfl, trivial⟩ ?_
          refine j_goto (p2 := 51) dM_levelAll_171 (by decide) ?_
          refine J.loc (lv' := [(0, _), (1, _), (2, _)]) ⟨rfl, rfl, rfl, trivial⟩ ?_
          exact ih2 (by omega)
  have outer : ∀ (n t : Nat), t ≤ N → N + 1 ≤ t + n → J mM_levelAll 41 [(0, vR 69), (1, vI t)] [] (wI σ 79 (lvT (hI σ 72) (lv0 (hI σ 70) (hI σ 79) N) N t)) Q := by
    intro n
    induction n with
    | zero => intro i h1 h2; exact absurd h2 (by omega)
    | succ n ih =>
      intro t h1 h2
      have eN : hI (wI σ 79 (lvT (hI σ 72) (lv0 (hI σ 70) (hI σ 79) N) N t)) 69 0 = N := hN
      refine j_iload_n (p2 := 42) dM_levelAll_41 rfl rfl ?_
      refine j_aload_n (p2 := 43) dM_levelAll_42 rfl rfl ?_
      refine j_getIk (p2 := 46) dM_levelAll_43 rfl fa_M_158 ly_69 rfl (ki := 0) rfl ?_
      refine j_icmp_ge (p2 := 49) (tg := 180) dM_levelAll_46 rfl (by decide) (by constructor <;> omega) (by rw [eN]; constructor <;> omega) (fun h46 => ?_) (fun h46 => ?_)
      · refine j_return dM_levelAll_180 rfl (by rw [eN] at h46; have e : t = N := (by omega); subst e; exact hQ)
      · refine j_iconst (p2 := 50) dM_levelAll_49 rfl ?_
        refine j_istore_n (p2 := 51) (lv' := [(0, _), (1, _), (2, _)]) dM_levelAll_50 rfl (Nat.le_of_ble_eq_true rfl) ⟨rfl, rfl, rfl, trivial⟩ ?_
        refine J.loc (lv' := [(0, _), (1, _), (2, _)]) ⟨rfl, rfl, rfl, trivial⟩ ?_
        rw [eN] at h46
        exact inner t _ (lvT_b hc lv0_b t) (by omega) (ih (t + 1) (by omega) (by omega)) (N + 1) 0 (by omega) (by omega)
  have first : ∀ (n i : Nat), i ≤ N → N + 1 ≤ i + n → J mM_levelAll 2 [(0, vR 69), (1, vI i)] [] (wI σ 79 (lv0 (hI σ 70) (hI σ 79) i)) Q := by
    intro n
    induction n with
    | zero => intro i h1 h2; exact absurd h2 (by omega)
    | succ n ih =>
      intro i h1 h2
      have eN : hI (wI σ 79 (lv0 (hI σ 70) (hI σ 79) i)) 69 0 = N := hN
      have ih2 : i < N → ∀ x : Int, (if rem (hI σ 70 i) then 0 else -1) = x → J mM_levelAll 2 [(0, vR 69), (1, vI (i + 1))] [] (wI σ 79 (fup (lv0 (hI σ 70) (hI σ 79) i) i x)) Q := fun h x hx => by
        have := ih (i + 1) (by omega) (by omega)
        unfold lv0 at this ⊢
        rw [← pw_s, hx] at this
        exact this
      refine j_iload_n (p2 := 3) dM_levelAll_2 rfl rfl ?_
      refine j_aload_n (p2 := 4) dM_levelAll_3 rfl rfl ?_
      refine j_getIk (p2 := 7) dM_levelAll_4 rfl fa_M_158 ly_69 rfl (ki := 0) rfl ?_
      refine j_icmp_ge (p2 := 10) (tg := 39) dM_levelAll_7 rfl (by decide) (by constructor <;> omega) (by rw [eN]; constructor <;> omega) (fun h7 => ?_) (fun h7 => ?_)
      · refine j_iconst (p2 := 40) dM_levelAll_39 rfl ?_
        refine j_istore_n (p2 := 41) (lv' := [(0, _), (1, _)]) dM_levelAll_40 rfl (Nat.le_of_ble_eq_true rfl) ⟨rfl, rfl, trivial⟩ ?_
        refine J.loc (lv' := [(0, _), (1, _)]) ⟨rfl, rfl, trivial⟩ ?_
        rw [eN] at h7
        have e : i = N := by omega
        subst e
        exact outer (i + 1) 0 (by omega) (by omega)
      · refine j_aload_n (p2 := 11) dM_levelAll_10 rfl rfl ?_
        refine j_getR (p2 := 14) dM_levelAll_11 rfl fa_M_39 ly_69 rfl ?_
        refine j_iload_n (p2 := 15) dM_levelAll_14 rfl rfl ?_
        refine j_aload_n (p2 := 16) dM_levelAll_15 rfl rfl ?_
        refine j_getR (p2 := 19) dM_levelAll_16 rfl fa_M_7 ly_69 rfl ?_
        refine j_iload_n (p2 := 20) dM_levelAll_19 rfl rfl ?_
        refine j_iald (p2 := 21) dM_levelAll_20 rfl ly_70 (by decide) (by omega) (by rw [eN] at h7; omega) ?_
        refine j_callS (m' := mM_remembers) (As := [_]) (p2 := 24) dM_levelAll_21 rfl ml_M_207 ok_mM_remembers sm_mM_remembers rfl rfl (Nat.le_of_ble_eq_true rfl) (Nat.le_of_ble_eq_true rfl) ⟨(Nat.le_of_ble_eq_true rfl), (Nat.le_of_ble_eq_true rfl)⟩ ?_
        refine cM_remembers (by rw [eN] at h7; exact hk i (by omega) (by omega)) ?_
        refine j_ifb_eq (p2 := 27) (tg := 31) dM_levelAll_24 rfl (by decide) (fun h24 => ?_) (fun h24 => ?_)
        · refine j_iconst (p2 := 32) dM_levelAll_31 rfl ?_
          refine j_iastk (p2 := 33) dM_levelAll_32 rfl ly_79 (by decide) (by omega) (by rw [eN] at h7; omega) ?_
          refine j_iinc (p2 := 36) (lv' := [(0, _), (1, _)]) dM_levelAll_33 rfl (Nat.le_of_ble_eq_true rfl) rfl ⟨rfl, rfl, trivial⟩ ?_
          refine j_goto (p2 := 2) dM_levelAll_36 (by decide) ?_
          refine J.loc (lv' := [(0, _), (1, _)]) ⟨rfl, rfl, trivial⟩ ?_
          rw [eN] at h7
          rw [wI_wI]
          first
            | exact ih2 (by omega) _ (if_pos (dec_t h24))
            | exact ih2 (by omega) _ (if_neg (of_decide_eq_false h24))
        · refine j_iconst (p2 := 28) dM_levelAll_27 rfl ?_
          refine j_goto (p2 := 32) dM_levelAll_28 (by decide) ?_
          refine j_iastk (p2 := 33) dM_levelAll_32 rfl ly_79 (by decide) (by omega) (by rw [eN] at h7; omega) ?_
          refine j_iinc (p2 := 36) (lv' := [(0, _), (1, _)]) dM_levelAll_33 rfl (Nat.le_of_ble_eq_true rfl) rfl ⟨rfl, rfl, trivial⟩ ?_
          refine j_goto (p2 := 2) dM_levelAll_36 (by decide) ?_
          refine J.loc (lv' := [(0, _), (1, _)]) ⟨rfl, rfl, trivial⟩ ?_
          rw [eN] at h7
          rw [wI_wI]
          first
            | exact ih2 (by omega) _ (if_pos (dec_t h24))
            | exact ih2 (by omega) _ (if_neg (of_decide_eq_false h24))
  have e0 : wI σ 79 (lv0 (hI σ 70) (hI σ 79) 0) = σ := by unfold lv0; rw [pw_0, wI_id]
  refine j_iconst (p2 := 1) dM_levelAll_0 rfl ?_
  refine j_istore_n (p2 := 2) (lv' := [(0, _), (1, _)]) dM_levelAll_1 rfl (Nat.le_of_ble_eq_true rfl) ⟨rfl, rfl, trivial⟩ ?_
  refine J.loc (lv' := [(0, _), (1, _)]) ⟨rfl, rfl, trivial⟩ ?_
  exact (first (N + 1) 0 (by omega) (by omega)).hp e0
end REF15
