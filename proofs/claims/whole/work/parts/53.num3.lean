/-! ===== the class's numbers: bits ===== -/
theorem p2_lt {a b : Nat} : 2 ^ a < 2 ^ b ↔ a < b := Nat.pow_lt_pow_iff_right (by decide)
/-- c·2^q below 2^k -/
theorem dv_ltp {x y : UInt64} {c : Nat} {q k : Int} (h : dv x c q) (hy : dv y 1 k) (hc : 0 < c) : FP.dcmp x y = some .lt ↔ q + (c.log2 : Int) < k := by
  rw [dv_lt h hy, Nat.one_mul]
  have hq := h.q
  have hk := hy.q
  have l1 := Nat.log2_self_le (n := c) (by omega)
  have l2 := Nat.lt_log2_self (n := c)
  obtain ⟨L, hL⟩ : ∃ L, L = c.log2 := ⟨_, rfl⟩
  rw [← hL] at l1 l2 ⊢
  constructor
  · intro g
    have g2 : 2 ^ L * 2 ^ (q + 1074).toNat < 2 ^ (k + 1074).toNat := Nat.lt_of_le_of_lt (Nat.mul_le_mul_right _ l1) g
    rw [← Nat.pow_add, p2_lt] at g2
    omega
  · intro g
    have g2 : c * 2 ^ (q + 1074).toNat < 2 ^ (L + 1) * 2 ^ (q + 1074).toNat := Nat.mul_lt_mul_of_pos_right l2 (Nat.two_pow_pos _)
    rw [← Nat.pow_add] at g2
    exact Nat.lt_of_lt_of_le g2 (Nat.pow_le_pow_right (by decide) (by omega))
theorem dv_gep {x y : UInt64} {c : Nat} {q k : Int} (h : dv x c q) (hy : dv y 1 k) (hc : 0 < c) : (FP.dcmp x y = some .gt ∨ FP.dcmp x y = some .eq) ↔ k ≤ q + (c.log2 : Int) := by
  have h1 := dv_ltp h hy hc
  rw [dv_lt h hy] at h1
  rw [dv_gt h hy, dv_eq h hy]
  generalize c * 2 ^ (q + 1074).toNat = A at *
  generalize 1 * 2 ^ (k + 1074).toNat = B at *
  omega
/-- the bits of c·2^q, with f digits behind the first and a bias b -/
def pkN (c : Nat) (q : Int) (f b : Nat) : Nat :=
  if q + (c.log2 : Int) < 1 - (b : Int) then c * 2 ^ (f - c.log2) / 2 ^ (1 - (b : Int) - (q + (c.log2 : Int))).toNat
  else ((q + (c.log2 : Int) + (b : Int)).toNat) * 2 ^ f + c * 2 ^ (f - c.log2) - 2 ^ f
section NUM3
variable {σ : Hp} {Q : Option PV → Hp → Prop}
theorem cN_packed {x : UInt64} {c f b : Nat} {q : Int} (hx : dv x c q) (hc0 : 0 < c) (hc : c < 2 ^ (f + 1)) (hq : q ≤ 971) (hfb : (f = 52 ∧ b = 1023) ∨ (f = 23 ∧ b = 127)) (hb : q + (c.log2 : Int) + b < 2 ^ 30) (hsh : 1 - (b : Int) - (q + (c.log2 : Int)) < 64) (hQ : pkN c q f b < 2 ^ 63 → Q (some (vL (lN (pkN c q f b)))) σ) (hf63 : pkN c q f b < 2 ^ 63) : Sp mN_packed [vD x, vI f, vI b] σ Q := by
  have hQ := hQ hf63
  have hq0 := hx.q
  have l1 := Nat.log2_self_le (n := c) (by omega)
  have l2 := Nat.lt_log2_self (n := c)
  obtain ⟨L, hL⟩ : ∃ L, L = c.log2 := ⟨_, rfl⟩
  unfold pkN at hQ hf63
  rw [← hL] at l1 l2 hQ hb hsh hf63
  have hLf : L ≤ f := by
    have : 2 ^ L < 2 ^ (f + 1) := Nat.lt_of_le_of_lt l1 hc
    rw [p2_lt] at this; omega
  have hf52 : f ≤ 52 := by omega
  have hc53 : c < 2 ^ 53 := Nat.lt_of_lt_of_le hc (Nat.pow_le_pow_right (by decide) (by omega))
  have fin : ∀ v, dv v c (-(L : Int)) → J mN_packed 121 [(2, vI f), (3, vI b), (4, vD v), (6, vI (q + L))] [] σ Q := by
    intro v hv
    have e1 : jlshl 1 (f : Int) = lN (2 ^ f) := by
      have := jl_shl 1 (k := f) (by omega)
      rw [Nat.one_mul] at this; exact this
    have h2f : 2 ^ f ≤ 2 ^ 52 := Nat.pow_le_pow_right (by decide) hf52
    have hd : dv (FP.l2d (lN (2 ^ f))) 1 f := (dv_l2d (by omega)).cg (by omega) (by
      rw [Nat.one_mul, ← Nat.pow_add]; congr 1)
    have hm := dv_mul hv hd hc53 (by omega) (by omega)
    have hval : c * 2 ^ (-(L : Int) + (f : Int) + 1074).toNat / 2 ^ 1074 = c * 2 ^ (f - L) := by
      rw [show (-(L : Int) + (f : Int) + 1074).toNat = (f - L) + 1074 by omega, Nat.pow_add, ← Nat.mul_assoc, Nat.mul_div_cancel _ (Nat.two_pow_pos _)]
    have hWl : c * 2 ^ (f - L) < 2 ^ (f + 1) := by
      have : c * 2 ^ (f - L) < 2 ^ (L + 1) * 2 ^ (f - L) := Nat.mul_lt_mul_of_pos_right l2 (Nat.two_pow_pos _)
      rw [← Nat.pow_add, show L + 1 + (f - L) = f + 1 by omega] at this
      exact this
    have hWg : 2 ^ f ≤ c * 2 ^ (f - L) := by
      have : 2 ^ L * 2 ^ (f - L) ≤ c * 2 ^ (f - L) := Nat.mul_le_mul_right _ l1
      rw [← Nat.pow_add, show L + (f - L) = f by omega] at this
      exact this
    have hWb : c * 2 ^ (f - L) < 2 ^ 53 := Nat.lt_of_lt_of_le hWl (Nat.pow_le_pow_right (by decide) (by omega))
    have ed : FP.d2l (FP.dmul v (FP.l2d (lN (2 ^ f)))) = lN (c * 2 ^ (f - L)) := by
      have := dv_d2l hm (by rw [hval]; omega)
      rw [hval] at this; exact this
    obtain ⟨Wn, hWn⟩ : ∃ Wn, Wn = c * 2 ^ (f - L) := ⟨_, rfl⟩
    rw [← hWn] at hWl hWg hWb ed hQ hf63
    have nm := hm.nn
    rw [← e1] at nm ed
    have at131 : J mN_packed 131 [(2, vI f), (3, vI b), (6, vI (q + L)), (7, vL (lN Wn))] [] σ Q := by
      have low : q + L < 1 - (b : Int) → jlshr (lN Wn) (1 - (b : Int) - (q + L)) = lN (Wn / 2 ^ (1 - (b : Int) - (q + L)).toNat) := fun g => by
        have := jl_shr (n := Wn) (k := (1 - (b : Int) - (q + L)).toNat) (by omega) (by omega)
        rw [show (((1 - (b : Int) - (q + L)).toNat : Nat) : Int) = 1 - (b : Int) - (q + L) by omega] at this
        exact this
      have high : ¬ q + L < 1 - (b : Int) → jlshl ((iw (q + L + b)).toInt64) (f : Int) + lN Wn - jlshl 1 (f : Int) = lN ((q + L + b).toNat * 2 ^ f + Wn - 2 ^ f) := fun g => by
        have a1 : (iw (q + L + b)).toInt64 = lN (q + L + b).toNat := by
          apply Int64.toInt_inj.mp
          rw [Int32.toInt_toInt64, iw_toInt ⟨by omega, by omega⟩, pf_lI (by omega)]
          omega
        rw [a1, e1, jl_shl _ (by omega), lN_add, lN_sub (by omega)]
      refine j_iconst (p2 := 132) dN_packed_131 rfl ?_
      refine j_iload_n (p2 := 133) dN_packed_132 rfl rfl ?_
      refine j_isub (p2 := 134) dN_packed_133 rfl ?_
      refine j_istore (p2 := 136) (lv' := [(2, _), (3, _), (6, _), (7, _), (9, _)]) dN_packed_134 rfl (Nat.le_of_ble_eq_true rfl) ⟨rfl, rfl, rfl, rfl, rfl, trivial⟩ ?_
      refine j_iload (p2 := 138) dN_packed_136 rfl rfl ?_
      refine j_iload (p2 := 140) dN_packed_138 rfl rfl ?_
      refine j_icmp_ge (p2 := 143) (tg := 152) dN_packed_140 rfl (by decide) (by constructor <;> omega) (by constructor <;> omega) (fun h140 => ?_) (fun h140 => ?_)
      · refine j_iload (p2 := 154) dN_packed_152 rfl rfl ?_
        refine j_iload_n (p2 := 155) dN_packed_154 rfl rfl ?_
        refine j_iadd (p2 := 156) dN_packed_155 rfl ?_
        refine j_i2l (p2 := 157) dN_packed_156 rfl ?_
        refine j_iload_n (p2 := 158) dN_packed_157 rfl rfl ?_
        refine j_lshl (p2 := 159) dN_packed_158 rfl ?_
        refine j_lload (p2 := 161) dN_packed_159 rfl rfl ?_
        refine j_ladd (p2 := 162) dN_packed_161 rfl ?_
        refine j_lconst (v := 1) (p2 := 163) dN_packed_162 rfl rfl ?_
        refine j_iload_n (p2 := 164) dN_packed_163 rfl rfl ?_
        refine j_lshl (p2 := 165) dN_packed_164 rfl ?_
        refine j_lsub (p2 := 166) dN_packed_165 rfl ?_
        refine j_lreturn dN_packed_166 rfl (by first | (rw [if_pos h140] at hQ; rw [low h140]; exact hQ) | (rw [if_neg (by omega)] at hQ; rw [high (by omega)]; exact hQ))
      · refine j_lload (p2 := 145) dN_packed_143 rfl rfl ?_
        refine j_iload (p2 := 147) dN_packed_145 rfl rfl ?_
        refine j_iload (p2 := 149) dN_packed_147 rfl rfl ?_
        refine j_isub (p2 := 150) dN_packed_149 rfl ?_
        refine j_lshr (p2 := 151) dN_packed_150 rfl ?_
        refine j_lreturn dN_packed_151 rfl (by first | (rw [if_pos h140] at hQ; rw [low h140]; exact hQ) | (rw [if_neg (by omega)] at hQ; rw [high (by omega)]; exact hQ))
    refine j_dload (p2 := 123) dN_packed_121 rfl rfl ?_
    refine j_lconst (v := 1) (p2 := 124) dN_packed_123 rfl rfl ?_
    refine j_iload_n (p2 := 125) dN_packed_124 rfl rfl ?_
    refine j_lshl (p2 := 126) dN_packed_125 rfl ?_
    refine j_l2d (p2 := 127) dN_packed_126 rfl ?_
    refine j_dmul (p2 := 128) dN_packed_127 rfl nm ?_
    refine j_d2l (p2 := 129) dN_packed_128 rfl ?_
    refine j_lstore (p2 := 131) (lv' := [(2, _), (3, _), (6, _), (7, _)]) dN_packed_129 rfl (Nat.le_of_ble_eq_true rfl) ⟨rfl, rfl, rfl, rfl, trivial⟩ ?_
    refine J.loc (lv' := [(2, _), (3, _), (6, _), (7, _)]) ⟨rfl, rfl, rfl, rfl, trivial⟩ ?_
    rw [ed]
    exact at131
  have loop3 : ∀ (n j : Nat) (v : UInt64) (e : Int), j ≤ 1100 → 1101 ≤ j + n → 0 ≤ e + L → e ≤ 971 → e + (L : Int) ≤ 1023 - j → dv v c e → J mN_packed 87 [(2, vI f), (3, vI b), (4, vD v), (6, vI (q - e)), (7, vI j)] [] σ Q := by
    intro n
    induction n with
    | zero => intro j v e h1 h2; exact absurd h2 (by omega)
    | succ n ih =>
      intro j v e h1 h2 h3 h4 h5 hv
      have cmp := dv_ltp hv dv_2 hc0
      rw [← hL] at cmp
      have nx : ¬ e + (L : Int) < 1 → dv (FP.dmul v 4602678819172646912) c (e + -1) := fun g => dv_mul hv dv_h hc53 (by omega) (by omega)
      have done : e + (L : Int) < 1 → J mN_packed 121 [(2, vI f), (3, vI b), (4, vD v), (6, vI (q - e))] [] σ Q := fun g => by
        have e1 : e = -(L : Int) := by omega
        subst e1
        rw [show q - -(L : Int) = q + L by omega]
        exact fin v hv
      have ih2 : ¬ e + (L : Int) < 1 → J mN_packed 87 [(2, vI f), (3, vI b), (4, vD (FP.dmul v 4602678819172646912)), (6, vI (q - e + 1)), (7, vI (j + 1))] [] σ Q := fun g => by
        have := ih (j + 1) _ (e + -1) (by omega) (by omega) (by omega) (by omega) (by omega) (nx g)
        rw [show q - (e + -1) = q - e + 1 by omega] at this
        exact this
      have cge := dv_gep hv dv_2 hc0
      rw [← hL] at cge
      refine j_iload (p2 := 89) dN_packed_87 rfl rfl ?_
      refine j_sipush (v := 1100) (p2 := 92) dN_packed_89 rfl rfl ?_
      refine j_icmp_ge (p2 := 95) (tg := 121) dN_packed_92 rfl (by decide) (by constructor <;> omega) (by constructor <;> omega) (fun h92 => ?_) (fun h92 => ?_)
      · refine J.loc (lv' := [(2, _), (3, _), (4, _), (6, _)]) ⟨rfl, rfl, rfl, rfl, trivial⟩ ?_
        first
          | (exfalso; omega)
          | exact done (by have w : ¬ (1 ≤ e + (L : Int)) := fun z => h100 (cge.mpr z); omega)
      · refine j_dload (p2 := 97) dN_packed_95 rfl rfl ?_
        refine j_ldc2d (p2 := 100) dN_packed_97 rfl cw_N_19 ?_
        refine j_dcmp_l_lt (p1 := 101) (p2 := 104) (tg := 121) dN_packed_100 rfl dN_packed_101 rfl (by decide) (fun h100 => ?_) (fun h100 => ?_)
        · refine J.loc (lv' := [(2, _), (3, _), (4, _), (6, _)]) ⟨rfl, rfl, rfl, rfl, trivial⟩ ?_
          first
            | (exfalso; omega)
            | exact done (by have w : ¬ (1 ≤ e + (L : Int)) := fun z => h100 (cge.mpr z); omega)
        · refine j_dload (p2 := 106) dN_packed_104 rfl rfl ?_
          refine j_ldc2d (p2 := 109) dN_packed_106 rfl cw_N_17 ?_
          refine j_dmul (p2 := 110) dN_packed_109 rfl (by have := cge.mp h100; exact (nx (by omega)).nn) ?_
          refine j_dstore (p2 := 112) (lv' := [(2, _), (3, _), (4, _), (6, _), (7, _)]) dN_packed_110 rfl (Nat.le_of_ble_eq_true rfl) ⟨rfl, rfl, rfl, rfl, rfl, trivial⟩ ?_
          refine j_iinc (p2 := 115) (lv' := [(2, _), (3, _), (4, _), (6, _), (7, _)]) dN_packed_112 rfl (Nat.le_of_ble_eq_true rfl) rfl ⟨rfl, rfl, rfl, rfl, rfl, trivial⟩ ?_
          refine j_iinc (p2 := 118) (lv' := [(2, _), (3, _), (4, _), (6, _), (7, _)]) dN_packed_115 rfl (Nat.le_of_ble_eq_true rfl) rfl ⟨rfl, rfl, rfl, rfl, rfl, trivial⟩ ?_
          refine j_goto (p2 := 87) dN_packed_118 (by decide) ?_
          refine J.loc (lv' := [(2, _), (3, _), (4, _), (6, _), (7, _)]) ⟨rfl, rfl, rfl, rfl, rfl, trivial⟩ ?_
          have := cge.mp h100
          exact ih2 (by omega)
  have loop2 : ∀ (n j : Nat) (v : UInt64) (e : Int), j ≤ 40 → 41 ≤ j + n → -32 + (j : Int) ≤ e + L → q ≤ e → e ≤ 971 → (q < e → e + (L : Int) ≤ 0) → dv v c e → J mN_packed 53 [(2, vI f), (3, vI b), (4, vD v), (6, vI (q - e)), (7, vI j)] [] σ Q := by
    intro n
    induction n with
    | zero => intro j v e h1 h2; exact absurd h2 (by omega)
    | succ n ih =>
      intro j v e h1 h2 h3 h4 h5 h6 hv
      have cmp := dv_ltp hv dv_c1 hc0
      rw [← hL] at cmp
      have nx : e + (L : Int) < 0 → dv (FP.dmul v 4611686018427387904) c (e + 1) := fun g => dv_mul hv dv_2 hc53 (by omega) (by omega)
      have ih2 : e + (L : Int) < 0 → J mN_packed 53 [(2, vI f), (3, vI b), (4, vD (FP.dmul v 4611686018427387904)), (6, vI (q - e + -1)), (7, vI (j + 1))] [] σ Q := fun g => by
        have := ih (j + 1) _ (e + 1) (by omega) (by omega) (by omega) (by omega) (by omega) (by omega) (nx g)
        rw [show q - (e + 1) = q - e + -1 by omega] at this
        exact this
      have done : ¬ e + (L : Int) < 0 → J mN_packed 84 [(2, vI f), (3, vI b), (4, vD v), (6, vI (q - e))] [] σ Q := fun g => by
        have := loop3 1101 0 v e (by omega) (by omega) (by omega) (by omega) (by omega) hv
        refine j_iconst (p2 := 85) dN_packed_84 rfl ?_
        refine j_istore (p2 := 87) (lv' := [(2, _), (3, _), (4, _), (6, _), (7, _)]) dN_packed_85 rfl (Nat.le_of_ble_eq_true rfl) ⟨rfl, rfl, rfl, rfl, rfl, trivial⟩ ?_
        refine J.loc (lv' := [(2, _), (3, _), (4, _), (6, _), (7, _)]) ⟨rfl, rfl, rfl, rfl, rfl, trivial⟩ ?_
        exact this
      refine j_iload (p2 := 55) dN_packed_53 rfl rfl ?_
      refine j_bipush (v := 40) (p2 := 57) dN_packed_55 rfl rfl ?_
      refine j_icmp_ge (p2 := 60) (tg := 84) dN_packed_57 rfl (by decide) (by constructor <;> omega) (by constructor <;> omega) (fun h57 => ?_) (fun h57 => ?_)
      · refine J.loc (lv' := [(2, _), (3, _), (4, _), (6, _)]) ⟨rfl, rfl, rfl, rfl, trivial⟩ ?_
        first
          | (exfalso; omega)
          | exact done (fun z => h63 (cmp.mpr z))
          | exact done (by omega)
      · refine j_dload (p2 := 62) dN_packed_60 rfl rfl ?_
        refine j_dconst1 (p2 := 63) dN_packed_62 rfl ?_
        refine j_dcmp_g_ge (p1 := 64) (p2 := 67) (tg := 84) dN_packed_63 rfl dN_packed_64 rfl (by decide) (fun h63 => ?_) (fun h63 => ?_)
        · refine J.loc (lv' := [(2, _), (3, _), (4, _), (6, _)]) ⟨rfl, rfl, rfl, rfl, trivial⟩ ?_
          first
            | (exfalso; omega)
            | exact done (fun z => h63 (cmp.mpr z))
            | exact done (by omega)
        · refine j_dload (p2 := 69) dN_packed_67 rfl rfl ?_
          refine j_ldc2d (p2 := 72) dN_packed_69 rfl cw_N_19 ?_
          refine j_dmul (p2 := 73) dN_packed_72 rfl (by exact (nx (cmp.mp (by first | exact h63 | exact Classical.not_not.mp h63))).nn) ?_
          refine j_dstore (p2 := 75) (lv' := [(2, _), (3, _), (4, _), (6, _), (7, _)]) dN_packed_73 rfl (Nat.le_of_ble_eq_true rfl) ⟨rfl, rfl, rfl, rfl, rfl, trivial⟩ ?_
          refine j_iinc (p2 := 78) (lv' := [(2, _), (3, _), (4, _), (6, _), (7, _)]) dN_packed_75 rfl (Nat.le_of_ble_eq_true rfl) rfl ⟨rfl, rfl, rfl, rfl, rfl, trivial⟩ ?_
          refine j_iinc (p2 := 81) (lv' := [(2, _), (3, _), (4, _), (6, _), (7, _)]) dN_packed_78 rfl (Nat.le_of_ble_eq_true rfl) rfl ⟨rfl, rfl, rfl, rfl, rfl, trivial⟩ ?_
          refine j_goto (p2 := 53) dN_packed_81 (by decide) ?_
          refine J.loc (lv' := [(2, _), (3, _), (4, _), (6, _), (7, _)]) ⟨rfl, rfl, rfl, rfl, rfl, trivial⟩ ?_
          exact ih2 (cmp.mp (by first | exact h63 | exact Classical.not_not.mp h63))
  have loop1 : ∀ (n j : Nat) (v : UInt64) (e : Int), j ≤ 40 → 41 ≤ j + n → -1074 + 32 * (j : Int) ≤ e → q ≤ e → e ≤ 971 → (q < e → e + (L : Int) < 0) → dv v c e → J mN_packed 17 [(2, vI f), (3, vI b), (4, vD v), (6, vI (q - e)), (7, vI j)] [] σ Q := by
    intro n
    induction n with
    | zero => intro j v e h1 h2; exact absurd h2 (by omega)
    | succ n ih =>
      intro j v e h1 h2 h3 h4 h5 h6 hv
      have cmp := dv_ltp hv dv_m32 hc0
      rw [← hL] at cmp
      have nx : e + (L : Int) < -32 → dv (FP.dmul v 4751297606875873280) c (e + 32) := fun g => dv_mul hv dv_p32 hc53 (by omega) (by omega)
      have ih2 : e + (L : Int) < -32 → J mN_packed 17 [(2, vI f), (3, vI b), (4, vD (FP.dmul v 4751297606875873280)), (6, vI (q - e + -32)), (7, vI (j + 1))] [] σ Q := fun g => by
        have := ih (j + 1) _ (e + 32) (by omega) (by omega) (by omega) (by omega) (by omega) (by omega) (nx g)
        rw [show q - (e + 32) = q - e + -32 by omega] at this
        exact this
      have done : ¬ e + (L : Int) < -32 → J mN_packed 50 [(2, vI f), (3, vI b), (4, vD v), (6, vI (q - e))] [] σ Q := fun g => by
        have := loop2 41 0 v e (by omega) (by omega) (by omega) (by omega) (by omega) (by omega) hv
        refine j_iconst (p2 := 51) dN_packed_50 rfl ?_
        refine j_istore (p2 := 53) (lv' := [(2, _), (3, _), (4, _), (6, _), (7, _)]) dN_packed_51 rfl (Nat.le_of_ble_eq_true rfl) ⟨rfl, rfl, rfl, rfl, rfl, trivial⟩ ?_
        refine J.loc (lv' := [(2, _), (3, _), (4, _), (6, _), (7, _)]) ⟨rfl, rfl, rfl, rfl, rfl, trivial⟩ ?_
        exact this
      refine j_iload (p2 := 19) dN_packed_17 rfl rfl ?_
      refine j_bipush (v := 40) (p2 := 21) dN_packed_19 rfl rfl ?_
      refine j_icmp_ge (p2 := 24) (tg := 50) dN_packed_21 rfl (by decide) (by constructor <;> omega) (by constructor <;> omega) (fun h21 => ?_) (fun h21 => ?_)
      · refine J.loc (lv' := [(2, _), (3, _), (4, _), (6, _)]) ⟨rfl, rfl, rfl, rfl, trivial⟩ ?_
        first
          | (exfalso; omega)
          | exact done (fun z => h29 (cmp.mpr z))
          | exact done (by omega)
      · refine j_dload (p2 := 26) dN_packed_24 rfl rfl ?_
        refine j_ldc2d (p2 := 29) dN_packed_26 rfl cw_N_28 ?_
        refine j_dcmp_g_ge (p1 := 30) (p2 := 33) (tg := 50) dN_packed_29 rfl dN_packed_30 rfl (by decide) (fun h29 => ?_) (fun h29 => ?_)
        · refine J.loc (lv' := [(2, _), (3, _), (4, _), (6, _)]) ⟨rfl, rfl, rfl, rfl, trivial⟩ ?_
          first
            | (exfalso; omega)
            | exact done (fun z => h29 (cmp.mpr z))
            | exact done (by omega)
        · refine j_dload (p2 := 35) dN_packed_33 rfl rfl ?_
          refine j_ldc2d (p2 := 38) dN_packed_35 rfl cw_N_30 ?_
          refine j_dmul (p2 := 39) dN_packed_38 rfl (by exact (nx (cmp.mp (by first | exact h29 | exact Classical.not_not.mp h29))).nn) ?_
          refine j_dstore (p2 := 41) (lv' := [(2, _), (3, _), (4, _), (6, _), (7, _)]) dN_packed_39 rfl (Nat.le_of_ble_eq_true rfl) ⟨rfl, rfl, rfl, rfl, rfl, trivial⟩ ?_
          refine j_iinc (p2 := 44) (lv' := [(2, _), (3, _), (4, _), (6, _), (7, _)]) dN_packed_41 rfl (Nat.le_of_ble_eq_true rfl) rfl ⟨rfl, rfl, rfl, rfl, rfl, trivial⟩ ?_
          refine j_iinc (p2 := 47) (lv' := [(2, _), (3, _), (4, _), (6, _), (7, _)]) dN_packed_44 rfl (Nat.le_of_ble_eq_true rfl) rfl ⟨rfl, rfl, rfl, rfl, rfl, trivial⟩ ?_
          refine j_goto (p2 := 17) dN_packed_47 (by decide) ?_
          refine J.loc (lv' := [(2, _), (3, _), (4, _), (6, _), (7, _)]) ⟨rfl, rfl, rfl, rfl, rfl, trivial⟩ ?_
          exact ih2 (cmp.mp (by first | exact h29 | exact Classical.not_not.mp h29))
  have start := loop1 41 0 x q (by omega) (by omega) (by omega) (by omega) (by omega) (by omega) hx
  rw [Int.sub_self] at start
  have hnz : ¬ FP.dcmp x FP.dconst0 = some .eq := fun h => by
    have := (dv_eq hx dv_c0).mp h
    rw [Nat.zero_mul] at this
    have := Nat.mul_pos hc0 (Nat.two_pow_pos (q + 1074).toNat)
    omega
  refine j_dload_n (p2 := 1) dN_packed_0 rfl rfl ?_
  refine j_dconst0 (p2 := 2) dN_packed_1 rfl ?_
  refine j_dcmp_l_ne (p1 := 3) (p2 := 6) (tg := 8) dN_packed_2 rfl dN_packed_3 rfl (by decide) (fun h2 => ?_) (fun h2 => ?_)
  · refine j_dload_n (p2 := 9) dN_packed_8 rfl rfl ?_
    refine j_dstore (p2 := 11) (lv' := [(2, _), (3, _), (4, _)]) dN_packed_9 rfl (Nat.le_of_ble_eq_true rfl) ⟨rfl, rfl, rfl, trivial⟩ ?_
    refine j_iconst (p2 := 12) dN_packed_11 rfl ?_
    refine j_istore (p2 := 14) (lv' := [(2, _), (3, _), (4, _), (6, _)]) dN_packed_12 rfl (Nat.le_of_ble_eq_true rfl) ⟨rfl, rfl, rfl, rfl, trivial⟩ ?_
    refine j_iconst (p2 := 15) dN_packed_14 rfl ?_
    refine j_istore (p2 := 17) (lv' := [(2, _), (3, _), (4, _), (6, _), (7, _)]) dN_packed_15 rfl (Nat.le_of_ble_eq_true rfl) ⟨rfl, rfl, rfl, rfl, rfl, trivial⟩ ?_
    refine J.loc (lv' := [(2, _), (3, _), (4, _), (6, _), (7, _)]) ⟨rfl, rfl, rfl, rfl, rfl, trivial⟩ ?_
    exact start
  · refine j_lconst (v := 0) (p2 := 7) dN_packed_6 rfl rfl ?_
    refine j_lreturn dN_packed_7 rfl (absurd h2 hnz)
end NUM3
