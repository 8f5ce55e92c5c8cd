/-! ===== the reference: count ===== -/
def cntA (σ : Hp) (N : Nat) (w : Int) : Int := if w = 0 then hI σ 69 0 else if w = 1 then hI σ 69 37 else if w = 2 then cnt (hI σ 72) 120 else if w = 4 then cnt (hI σ 87) N else if w = 5 then hI σ 69 15 else if w = 6 then hI σ 69 13 else if w = 7 then hI σ 69 14 else -102
section REF27
variable {σ : Hp} {Q : Option PV → Hp → Prop} {N : Nat}
theorem cM_count {w : Int} (hN : hI σ 69 0 = N ∧ N ≤ 20) (hw : inR w) (hc : CdN (hI σ 72) N) (hkd : ∀ m : Int, 0 ≤ m → m < N → inR (hI σ 70 m)) (hf : ∀ k : Int, 0 ≤ k → k < 120 → inR (hI σ 72 k)) (hl : ∀ k : Int, 0 ≤ k → k < N → inR (hI σ 87 k)) (h3 : w = 3 → Q (some (vI (gmost (lvs (hI σ 70) (hI σ 72) (hI σ 79) N) N))) (wI σ 79 (lvs (hI σ 70) (hI σ 72) (hI σ 79) N))) (h0 : ¬ w = 3 → Q (some (vI (cntA σ N w))) σ) : Sp mM_count [vR 69, vI w] σ Q := by
  obtain ⟨hN, hN2⟩ := hN
  have l2 : Q (some (vI (cnt (hI σ 72) 120))) σ → ∀ (n i : Nat), i ≤ 120 → 121 ≤ i + n → J mM_count 60 [(0, vR 69), (2, vI (cnt (hI σ 72) i)), (3, vI i)] [] σ Q := by
    intro hq n
    induction n with
    | zero => intro i h1 h2; exact absurd h2 (by omega)
    | succ n ih =>
      intro i h1 h2
      have ih2 : i < 120 → J mM_count 60 [(0, vR 69), (2, vI (cnt (hI σ 72) i + (if hI σ 72 i = -1 then 0 else 1))), (3, vI (i + 1))] [] σ Q := fun h => ih (i + 1) (by omega) (by omega)
      refine j_iload_n (p2 := 61) dM_count_60 rfl rfl ?_
      refine j_bipush (v := 120) (p2 := 63) dM_count_61 rfl rfl ?_
      refine j_icmp_ge (p2 := 66) (tg := 90) dM_count_63 rfl (by decide) (by constructor <;> omega) (by constructor <;> omega) (fun h63 => ?_) (fun h63 => ?_)
      · refine j_iload_n (p2 := 91) dM_count_90 rfl rfl ?_
        refine j_ireturn dM_count_91 rfl (by have e : i = 120 := (by omega); subst e; exact hq)
      · refine j_iload_n (p2 := 67) dM_count_66 rfl rfl ?_
        refine j_aload_n (p2 := 68) dM_count_67 rfl rfl ?_
        refine j_getR (p2 := 71) dM_count_68 rfl fa_M_17 ly_69 rfl ?_
        refine j_iload_n (p2 := 72) dM_count_71 rfl rfl ?_
        refine j_iald (p2 := 73) dM_count_72 rfl ly_72 (by decide) (by omega) (by omega) ?_
        refine j_iconst (p2 := 74) dM_count_73 rfl ?_
        refine j_icmp_ne (p2 := 77) (tg := 81) dM_count_74 rfl (by decide) (hf i (by omega) (by omega)) (by constructor <;> omega) (fun h74 => ?_) (fun h74 => ?_)
        · refine j_iconst (p2 := 82) dM_count_81 rfl ?_
          refine j_iadd (p2 := 83) dM_count_82 rfl ?_
          refine j_istore_n (p2 := 84) (lv' := [(0, _), (2, _), (3, _)]) dM_count_83 rfl (Nat.le_of_ble_eq_true rfl) ⟨rfl, rfl, rfl, trivial⟩ ?_
          refine j_iinc (p2 := 87) (lv' := [(0, _), (2, _), (3, _)]) dM_count_84 rfl (Nat.le_of_ble_eq_true rfl) rfl ⟨rfl, rfl, rfl, trivial⟩ ?_
          refine j_goto (p2 := 60) dM_count_87 (by decide) ?_
          refine J.loc (lv' := [(0, _), (2, _), (3, _)]) ⟨rfl, rfl, rfl, trivial⟩ ?_
          have ih3 := ih2 (by omega)
          first
            | (rw [if_pos h74] at ih3; exact ih3)
            | (rw [if_neg h74] at ih3; exact ih3)
        · refine j_iconst (p2 := 78) dM_count_77 rfl ?_
          refine j_goto (p2 := 82) dM_count_78 (by decide) ?_
          refine j_iadd (p2 := 83) dM_count_82 rfl ?_
          refine j_istore_n (p2 := 84) (lv' := [(0, _), (2, _), (3, _)]) dM_count_83 rfl (Nat.le_of_ble_eq_true rfl) ⟨rfl, rfl, rfl, trivial⟩ ?_
          refine j_iinc (p2 := 87) (lv' := [(0, _), (2, _), (3, _)]) dM_count_84 rfl (Nat.le_of_ble_eq_true rfl) rfl ⟨rfl, rfl, rfl, trivial⟩ ?_
          refine j_goto (p2 := 60) dM_count_87 (by decide) ?_
          refine J.loc (lv' := [(0, _), (2, _), (3, _)]) ⟨rfl, rfl, rfl, trivial⟩ ?_
          have ih3 := ih2 (by omega)
          first
            | (rw [if_pos h74] at ih3; exact ih3)
            | (rw [if_neg h74] at ih3; exact ih3)
  have l4 : Q (some (vI (cnt (hI σ 87) N))) σ → ∀ (n i : Nat), i ≤ N → N + 1 ≤ i + n → J mM_count 137 [(0, vR 69), (2, vI (cnt (hI σ 87) i)), (3, vI i)] [] σ Q := by
    intro hq n
    induction n with
    | zero => intro i h1 h2; exact absurd h2 (by omega)
    | succ n ih =>
      intro i h1 h2
      have ih2 : i < N → J mM_count 137 [(0, vR 69), (2, vI (cnt (hI σ 87) i + (if hI σ 87 i = -1 then 0 else 1))), (3, vI (i + 1))] [] σ Q := fun h => ih (i + 1) (by omega) (by omega)
      refine j_iload_n (p2 := 138) dM_count_137 rfl rfl ?_
      refine j_aload_n (p2 := 139) dM_count_138 rfl rfl ?_
      refine j_getIk (p2 := 142) dM_count_139 rfl fa_M_158 ly_69 rfl (ki := 0) rfl ?_
      refine j_icmp_ge (p2 := 145) (tg := 169) dM_count_142 rfl (by decide) (by constructor <;> omega) (by constructor <;> omega) (fun h142 => ?_) (fun h142 => ?_)
      · refine j_iload_n (p2 := 170) dM_count_169 rfl rfl ?_
        refine j_ireturn dM_count_170 rfl (by have e : i = N := (by omega); subst e; exact hq)
      · refine j_iload_n (p2 := 146) dM_count_145 rfl rfl ?_
        refine j_aload_n (p2 := 147) dM_count_146 rfl rfl ?_
        refine j_getR (p2 := 150) dM_count_147 rfl fa_M_68 ly_69 rfl ?_
        refine j_iload_n (p2 := 151) dM_count_150 rfl rfl ?_
        refine j_iald (p2 := 152) dM_count_151 rfl ly_87 (by decide) (by omega) (by omega) ?_
        refine j_iconst (p2 := 153) dM_count_152 rfl ?_
        refine j_icmp_ne (p2 := 156) (tg := 160) dM_count_153 rfl (by decide) (hl i (by omega) (by omega)) (by constructor <;> omega) (fun h153 => ?_) (fun h153 => ?_)
        · refine j_iconst (p2 := 161) dM_count_160 rfl ?_
          refine j_iadd (p2 := 162) dM_count_161 rfl ?_
          refine j_istore_n (p2 := 163) (lv' := [(0, _), (2, _), (3, _)]) dM_count_162 rfl (Nat.le_of_ble_eq_true rfl) ⟨rfl, rfl, rfl, trivial⟩ ?_
          refine j_iinc (p2 := 166) (lv' := [(0, _), (2, _), (3, _)]) dM_count_163 rfl (Nat.le_of_ble_eq_true rfl) rfl ⟨rfl, rfl, rfl, trivial⟩ ?_
          refine j_goto (p2 := 137) dM_count_166 (by decide) ?_
          refine J.loc (lv' := [(0, _), (2, _), (3, _)]) ⟨rfl, rfl, rfl, trivial⟩ ?_
          have ih3 := ih2 (by omega)
          first
            | (rw [if_pos h153] at ih3; exact ih3)
            | (rw [if_neg h153] at ih3; exact ih3)
        · refine j_iconst (p2 := 157) dM_count_156 rfl ?_
          refine j_goto (p2 := 161) dM_count_157 (by decide) ?_
          refine j_iadd (p2 := 162) dM_count_161 rfl ?_
          refine j_istore_n (p2 := 163) (lv' := [(0, _), (2, _), (3, _)]) dM_count_162 rfl (Nat.le_of_ble_eq_true rfl) ⟨rfl, rfl, rfl, trivial⟩ ?_
          refine j_iinc (p2 := 166) (lv' := [(0, _), (2, _), (3, _)]) dM_count_163 rfl (Nat.le_of_ble_eq_true rfl) rfl ⟨rfl, rfl, rfl, trivial⟩ ?_
          refine j_goto (p2 := 137) dM_count_166 (by decide) ?_
          refine J.loc (lv' := [(0, _), (2, _), (3, _)]) ⟨rfl, rfl, rfl, trivial⟩ ?_
          have ih3 := ih2 (by omega)
          first
            | (rw [if_pos h153] at ih3; exact ih3)
            | (rw [if_neg h153] at ih3; exact ih3)
  have l3 : Q (some (vI (gmost (lvs (hI σ 70) (hI σ 72) (hI σ 79) N) N))) (wI σ 79 (lvs (hI σ 70) (hI σ 72) (hI σ 79) N)) → ∀ (n i : Nat), i ≤ N → N + 1 ≤ i + n → J mM_count 98 [(0, vR 69), (2, vI (gmost (lvs (hI σ 70) (hI σ 72) (hI σ 79) N) i)), (3, vI i)] [] (wI σ 79 (lvs (hI σ 70) (hI σ 72) (hI σ 79) N)) Q := by
    intro hq n
    have hlb := lvs_b (kd := hI σ 70) (lv := hI σ 79) hc
    have hcb := cnt_b (lvs (hI σ 70) (hI σ 72) (hI σ 79) N) N
    generalize lvs (hI σ 70) (hI σ 72) (hI σ 79) N = lv at *
    have hmb := gmost_b (lv := lv) (n := N) (fun m hm => by have := hlb m (by omega) (by omega); omega)
    induction n with
    | zero => intro i h1 h2; exact absurd h2 (by omega)
    | succ n ih =>
      intro i h1 h2
      have hmi := hmb i h1
      have eN : hI (wI σ 79 lv) 69 0 = N := hN
      have eL : hI (wI σ 79 lv) 79 = lv := rfl
      have lb : i < N → -1 ≤ lv i ∧ lv i ≤ cnt lv N := fun h => hlb i (by omega) (by omega)
      have ih2 : i < N → J mM_count 98 [(0, vR 69), (2, vI (if lv i > gmost lv i then lv i else gmost lv i)), (3, vI (i + 1))] [] (wI σ 79 lv) Q := fun h => ih (i + 1) (by omega) (by omega)
      refine j_iload_n (p2 := 99) dM_count_98 rfl rfl ?_
      refine j_aload_n (p2 := 100) dM_count_99 rfl rfl ?_
      refine j_getIk (p2 := 103) dM_count_100 rfl fa_M_158 ly_69 rfl (ki := 0) rfl ?_
      refine j_icmp_ge (p2 := 106) (tg := 133) dM_count_103 rfl (by decide) (by constructor <;> omega) (by rw [eN]; constructor <;> omega) (fun h103 => ?_) (fun h103 => ?_)
      · refine j_iload_n (p2 := 134) dM_count_133 rfl rfl ?_
        refine j_ireturn dM_count_134 rfl (by rw [eN] at h103; have e : i = N := (by omega); subst e; exact hq)
      · refine j_aload_n (p2 := 107) dM_count_106 rfl rfl ?_
        refine j_getR (p2 := 110) dM_count_107 rfl fa_M_39 ly_69 rfl ?_
        refine j_iload_n (p2 := 111) dM_count_110 rfl rfl ?_
        refine j_iald (p2 := 112) dM_count_111 rfl ly_79 (by decide) (by omega) (by rw [eN] at h103; omega) ?_
        refine j_iload_n (p2 := 113) dM_count_112 rfl rfl ?_
        refine j_icmp_le (p2 := 116) (tg := 125) dM_count_113 rfl (by decide) (by rw [eN] at h103; rw [eL]; have := lb (by omega); constructor <;> omega) (by constructor <;> omega) (fun h113 => ?_) (fun h113 => ?_)
        · refine j_iload_n (p2 := 126) dM_count_125 rfl rfl ?_
          refine j_istore_n (p2 := 127) (lv' := [(0, _), (2, _), (3, _)]) dM_count_126 rfl (Nat.le_of_ble_eq_true rfl) ⟨rfl, rfl, rfl, trivial⟩ ?_
          refine j_iinc (p2 := 130) (lv' := [(0, _), (2, _), (3, _)]) dM_count_127 rfl (Nat.le_of_ble_eq_true rfl) rfl ⟨rfl, rfl, rfl, trivial⟩ ?_
          refine j_goto (p2 := 98) dM_count_130 (by decide) ?_
          refine J.loc (lv' := [(0, _), (2, _), (3, _)]) ⟨rfl, rfl, rfl, trivial⟩ ?_
          rw [eN] at h103
          rw [eL] at h113
          have ih3 := ih2 (by omega)
          first
            | (rw [if_pos (by omega)] at ih3; exact ih3)
            | (rw [if_neg (by omega)] at ih3; exact ih3)
        · refine j_aload_n (p2 := 117) dM_count_116 rfl rfl ?_
          refine j_getR (p2 := 120) dM_count_117 rfl fa_M_39 ly_69 rfl ?_
          refine j_iload_n (p2 := 121) dM_count_120 rfl rfl ?_
          refine j_iald (p2 := 122) dM_count_121 rfl ly_79 (by decide) (by omega) (by rw [eN] at h103; omega) ?_
          refine j_goto (p2 := 126) dM_count_122 (by decide) ?_
          refine j_istore_n (p2 := 127) (lv' := [(0, _), (2, _), (3, _)]) dM_count_126 rfl (Nat.le_of_ble_eq_true rfl) ⟨rfl, rfl, rfl, trivial⟩ ?_
          refine j_iinc (p2 := 130) (lv' := [(0, _), (2, _), (3, _)]) dM_count_127 rfl (Nat.le_of_ble_eq_true rfl) rfl ⟨rfl, rfl, rfl, trivial⟩ ?_
          refine j_goto (p2 := 98) dM_count_130 (by decide) ?_
          refine J.loc (lv' := [(0, _), (2, _), (3, _)]) ⟨rfl, rfl, rfl, trivial⟩ ?_
          rw [eN] at h103
          rw [eL] at h113
          have ih3 := ih2 (by omega)
          first
            | (rw [if_pos (by omega)] at ih3; exact ih3)
            | (rw [if_neg (by omega)] at ih3; exact ih3)
  unfold cntA at h0
  refine j_iconst (p2 := 1) dM_count_0 rfl ?_
  refine j_istore_n (p2 := 2) (lv' := [(0, _), (1, _), (2, _)]) dM_count_1 rfl (Nat.le_of_ble_eq_true rfl) ⟨rfl, rfl, rfl, trivial⟩ ?_
  refine j_iload_n (p2 := 3) dM_count_2 rfl rfl ?_
  rcases (by omega : w = 0 ∨ w = 1 ∨ w = 2 ∨ w = 3 ∨ w = 4 ∨ w = 5 ∨ w = 6 ∨ w = 7 ∨ (w < 0 ∨ 7 < w)) with hk | hk | hk | hk | hk | hk | hk | hk | hk
  · refine j_tsw_in (tg := 48) dM_count_3 (by constructor <;> omega) (by omega) (by omega) (by rw [hk]; rfl) (by decide) ?_
    refine j_aload_n (p2 := 49) dM_count_48 rfl rfl ?_
    refine j_getIk (p2 := 52) dM_count_49 rfl fa_M_158 ly_69 rfl (ki := 0) rfl ?_
    refine j_ireturn dM_count_52 rfl (by subst hk; exact h0 (by decide))
  · refine j_tsw_in (tg := 53) dM_count_3 (by constructor <;> omega) (by omega) (by omega) (by rw [hk]; rfl) (by decide) ?_
    refine j_aload_n (p2 := 54) dM_count_53 rfl rfl ?_
    refine j_getIk (p2 := 57) dM_count_54 rfl fa_M_332 ly_69 rfl (ki := 37) rfl ?_
    refine j_ireturn dM_count_57 rfl (by subst hk; exact h0 (by decide))
  · refine j_tsw_in (tg := 58) dM_count_3 (by constructor <;> omega) (by omega) (by omega) (by rw [hk]; rfl) (by decide) ?_
    refine j_iconst (p2 := 59) dM_count_58 rfl ?_
    refine j_istore_n (p2 := 60) (lv' := [(0, _), (2, _), (3, _)]) dM_count_59 rfl (Nat.le_of_ble_eq_true rfl) ⟨rfl, rfl, rfl, trivial⟩ ?_
    refine J.loc (lv' := [(0, _), (2, _), (3, _)]) ⟨rfl, rfl, rfl, trivial⟩ ?_
    subst hk
    exact l2 (h0 (by decide)) 121 0 (by omega) (by omega)
  · refine j_tsw_in (tg := 92) dM_count_3 (by constructor <;> omega) (by omega) (by omega) (by rw [hk]; rfl) (by decide) ?_
    refine j_aload_n (p2 := 93) dM_count_92 rfl rfl ?_
    refine j_callV (m' := mM_levelAll) (As := []) (p2 := 96) dM_count_93 rfl ml_M_230 ok_mM_levelAll im_mM_levelAll se_mM_levelAll rfl rfl (Nat.le_of_ble_eq_true rfl) ly_69 rfl (Nat.le_of_ble_eq_true rfl) ⟨(Nat.le_of_ble_eq_true rfl), (Nat.le_of_ble_eq_true rfl)⟩ ?_
    refine cM_levelAll ⟨hN, hN2⟩ hc hkd ?_
    refine j_iconst (p2 := 97) dM_count_96 rfl ?_
    refine j_istore_n (p2 := 98) (lv' := [(0, _), (2, _), (3, _)]) dM_count_97 rfl (Nat.le_of_ble_eq_true rfl) ⟨rfl, rfl, rfl, trivial⟩ ?_
    refine J.loc (lv' := [(0, _), (2, _), (3, _)]) ⟨rfl, rfl, rfl, trivial⟩ ?_
    exact l3 (h3 hk) (N + 1) 0 (by omega) (by omega)
  · refine j_tsw_in (tg := 135) dM_count_3 (by constructor <;> omega) (by omega) (by omega) (by rw [hk]; rfl) (by decide) ?_
    refine j_iconst (p2 := 136) dM_count_135 rfl ?_
    refine j_istore_n (p2 := 137) (lv' := [(0, _), (2, _), (3, _)]) dM_count_136 rfl (Nat.le_of_ble_eq_true rfl) ⟨rfl, rfl, rfl, trivial⟩ ?_
    refine J.loc (lv' := [(0, _), (2, _), (3, _)]) ⟨rfl, rfl, rfl, trivial⟩ ?_
    subst hk
    exact l4 (h0 (by decide)) (N + 1) 0 (by omega) (by omega)
  · refine j_tsw_in (tg := 171) dM_count_3 (by constructor <;> omega) (by omega) (by omega) (by rw [hk]; rfl) (by decide) ?_
    refine j_aload_n (p2 := 172) dM_count_171 rfl rfl ?_
    refine j_getIk (p2 := 175) dM_count_172 rfl fa_M_350 ly_69 rfl (ki := 15) rfl ?_
    refine j_ireturn dM_count_175 rfl (by subst hk; exact h0 (by decide))
  · refine j_tsw_in (tg := 176) dM_count_3 (by constructor <;> omega) (by omega) (by omega) (by rw [hk]; rfl) (by decide) ?_
    refine j_aload_n (p2 := 177) dM_count_176 rfl rfl ?_
    refine j_getIk (p2 := 180) dM_count_177 rfl fa_M_210 ly_69 rfl (ki := 13) rfl ?_
    refine j_ireturn dM_count_180 rfl (by subst hk; exact h0 (by decide))
  · refine j_tsw_in (tg := 181) dM_count_3 (by constructor <;> omega) (by omega) (by omega) (by rw [hk]; rfl) (by decide) ?_
    refine j_aload_n (p2 := 182) dM_count_181 rfl rfl ?_
    refine j_getIk (p2 := 185) dM_count_182 rfl fa_M_42 ly_69 rfl (ki := 14) rfl ?_
    refine j_ireturn dM_count_185 rfl (by subst hk; exact h0 (by decide))
  · refine j_tsw_out (tg := 186) dM_count_3 (by assumption) hk (by decide) ?_
    refine j_bipush (v := (-102)) (p2 := 188) dM_count_186 rfl rfl ?_
    refine j_ireturn dM_count_188 rfl (by have h := h0 (by omega); rw [if_neg (by omega), if_neg (by omega), if_neg (by omega), if_neg (by omega), if_neg (by omega), if_neg (by omega), if_neg (by omega)] at h; exact h)
end REF27
