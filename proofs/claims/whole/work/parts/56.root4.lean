/-! ===== the class's numbers: wholeRoot ===== -/
theorem lN_oi (n : Nat) : lN n = Int64.ofInt (n : Int) := by
  apply Int64.toBitVec_inj.mp
  show BitVec.ofNat 64 n = BitVec.ofInt 64 (n : Int)
  exact (BitVec.ofInt_natCast ..).symm
/-- what is left of P, in a long -/
def rsL (P g : Nat) : Int64 := Int64.ofInt ((P : Int) - ((g * g : Nat) : Int))
theorem rsL_I {P g : Nat} (h : (P : Int) - ((g * g : Nat) : Int) < 2 ^ 62 ∧ -2 ^ 62 ≤ (P : Int) - ((g * g : Nat) : Int)) : (rsL P g).toInt = (P : Int) - ((g * g : Nat) : Int) := by
  unfold rsL
  rw [Int64.toInt_ofInt_of_le (by omega) (by omega)]
theorem rsL_dn {P g : Nat} (hg : 0 < g) : rsL P g + (2 * (lN g - 1) + 1) = rsL P (g - 1) := by
  unfold rsL
  have e1 : (2 : Int64) = Int64.ofInt 2 := by decide
  have e2 : (1 : Int64) = Int64.ofInt 1 := by decide
  rw [lN_oi, e1, e2, ← Int64.ofInt_sub, ← Int64.ofInt_mul, ← Int64.ofInt_add, ← Int64.ofInt_add]
  congr 1
  obtain ⟨k, rfl⟩ : ∃ k, g = k + 1 := ⟨g - 1, by omega⟩
  rw [Nat.add_sub_cancel, Nat.add_mul, Nat.mul_add]
  omega
theorem rsL_up {P g : Nat} : rsL P g - (2 * lN g + 1) = rsL P (g + 1) := by
  unfold rsL
  have e1 : (2 : Int64) = Int64.ofInt 2 := by decide
  have e2 : (1 : Int64) = Int64.ofInt 1 := by decide
  rw [lN_oi, e1, e2, ← Int64.ofInt_mul, ← Int64.ofInt_add, ← Int64.ofInt_sub]
  congr 1
  rw [Nat.add_mul, Nat.mul_add]
  omega
theorem rsL_rg {P T g : Nat} (h1 : T * T ≤ P) (h2 : P < (T + 1) * (T + 1)) (hT : T < 2 ^ 54) (a : T ≤ g + 64) (b : g ≤ T + 64) : (P : Int) - ((g * g : Nat) : Int) < 2 ^ 62 ∧ -2 ^ 62 ≤ (P : Int) - ((g * g : Nat) : Int) := by
  obtain ⟨j, hj⟩ : ∃ j : Int, j = (g : Int) - T := ⟨_, rfl⟩
  have e : ((g * g : Nat) : Int) = ((T * T : Nat) : Int) + 2 * ((T : Int) * j) + j * j := by
    have : (g : Int) = T + j := by omega
    rw [Int.natCast_mul, Int.natCast_mul, this, Int.add_mul, Int.mul_add, Int.mul_add, Int.mul_comm j (T : Int)]
    omega
  have u1 : (T : Int) * j ≤ (T : Int) * 64 := Int.mul_le_mul_of_nonneg_left (by omega) (by omega)
  have u2 : (T : Int) * (-64) ≤ (T : Int) * j := Int.mul_le_mul_of_nonneg_left (by omega) (by omega)
  have u3 := sq_le (d := j) (B := 64) (by omega) (by omega)
  have u4 : 0 ≤ j * j := by
    rcases Int.le_total 0 j with g | g
    · exact Int.mul_nonneg g g
    · exact Int.mul_nonneg_of_nonpos_of_nonpos g g
  have e2 : (T + 1) * (T + 1) = T * T + 2 * T + 1 := by rw [Nat.add_mul, Nat.mul_add]; omega
  rw [e2] at h2
  rw [e]
  omega
def dlt : Nat → Int
  | 0 => 2 ^ 53 + 64 | 1 => 2 ^ 52 | 2 => 2 ^ 50 | 3 => 2 ^ 46 | 4 => 2 ^ 38 | 5 => 2 ^ 22 | _ => 64
theorem dlt_s : ∀ i : Nat, i < 6 → ∃ Dm : Int, dlt i * dlt i ≤ Dm * (2 ^ 54 - 32) ∧ Dm + 68 ≤ 2 * dlt (i + 1) ∧ 32 ≤ dlt i ∧ dlt i ≤ 2 ^ 54 ∧ 0 ≤ Dm := by
  intro i h
  rcases (by omega : i = 0 ∨ i = 1 ∨ i = 2 ∨ i = 3 ∨ i = 4 ∨ i = 5) with e | e | e | e | e | e <;> subst e
  · exact ⟨2 ^ 52 + 2 ^ 10, by decide, by decide, by decide, by decide, by decide⟩
  · exact ⟨2 ^ 50 + 2 ^ 10, by decide, by decide, by decide, by decide, by decide⟩
  · exact ⟨2 ^ 46 + 2 ^ 10, by decide, by decide, by decide, by decide, by decide⟩
  · exact ⟨2 ^ 38 + 2 ^ 10, by decide, by decide, by decide, by decide, by decide⟩
  · exact ⟨2 ^ 22 + 2 ^ 10, by decide, by decide, by decide, by decide, by decide⟩
  · exact ⟨1, by decide, by decide, by decide, by decide, by decide⟩
theorem root_rg {W R : Nat} (w1 : 2 ^ 54 ≤ W) (w2 : W < 2 ^ 56) (h1 : R * R ≤ W * 2 ^ 54) (h2 : W * 2 ^ 54 < (R + 1) * (R + 1)) : 2 ^ 54 ≤ R ∧ R < 2 ^ 55 := by
  constructor
  · rcases Nat.lt_or_ge R (2 ^ 54) with z | z
    · have := Nat.mul_le_mul (show R + 1 ≤ 2 ^ 54 by omega) (show R + 1 ≤ 2 ^ 54 by omega)
      omega
    · exact z
  · rcases Nat.lt_or_ge R (2 ^ 55) with z | z
    · exact z
    · have := Nat.mul_le_mul z z
      omega
/-- a step brings it nearer -/
theorem nnear {W R n k n' : Nat} {i : Nat} (hi : i < 6) (w1 : 2 ^ 54 ≤ W) (w2 : W < 2 ^ 56) (h1 : R * R ≤ W * 2 ^ 54) (h2 : W * 2 ^ 54 < (R + 1) * (R + 1)) (d1 : (R : Int) - 32 ≤ n) (d2 : (n : Int) ≤ R + dlt i)
    (k1 : k * n ≤ W * 2 ^ 54 + 32 * n) (k2 : W * 2 ^ 54 ≤ k * n + 32 * n) (s1 : 2 * n' ≤ n + k + 32) (s2 : n + k ≤ 2 * n' + 32) : (R : Int) - 32 ≤ n' ∧ (n' : Int) ≤ R + dlt (i + 1) := by
  obtain ⟨r1, r2⟩ := root_rg w1 w2 h1 h2
  obtain ⟨Dm, a1, a2, a3, a4, a5⟩ := dlt_s i hi
  have hsq := sq_le (d := (n : Int) - R) (B := dlt i) (by omega) (by omega)
  have hDn : Dm * (2 ^ 54 - 32) ≤ Dm * (n : Int) := Int.mul_le_mul_of_nonneg_left (by omega) a5
  have := newton (n := (n : Int)) (k := (k : Int)) (R := (R : Int)) (P := ((W * 2 ^ 54 : Nat) : Int)) (Dm := Dm) (by omega)
    (by rw [← Int.natCast_mul]; omega) (by
      have : ((R : Int) + 1) * ((R : Int) + 1) = (((R + 1) * (R + 1) : Nat) : Int) := by rw [Int.natCast_mul, Int.natCast_add]; rfl
      rw [this]; omega) (by rw [← Int.natCast_mul]; omega) (by rw [← Int.natCast_mul]; omega) (by omega) (by omega)
  omega
section RT4
variable {σ : Hp} {Q : Option PV → Hp → Prop}
theorem cN_wholeRoot {v : UInt64} {V : Nat} (hv : dv v V (-52)) (v1 : 2 ^ 52 ≤ V) (v2 : V < 2 ^ 54) (hQ : Q (some (vL (lN (FP.Core.sqrtFloor (V * 2 ^ 54))))) σ) : Sp mN_wholeRoot [vD v] σ Q := by
  obtain ⟨W, hW⟩ : ∃ W, W = 4 * V := ⟨_, rfl⟩
  have hvW : dv v W (-54) := hv.cg (by decide) (by
    rw [hW]
    show V * 2 ^ 1022 = 4 * V * 2 ^ 1020
    rw [show (2 : Nat) ^ 1022 = 4 * 2 ^ 1020 by decide +kernel, ← Nat.mul_assoc, Nat.mul_comm V 4])
  have w1 : 2 ^ 54 ≤ W := by omega
  have w2 : W < 2 ^ 56 := by omega
  obtain ⟨R, hR⟩ : ∃ R, R = FP.Core.sqrtFloor (W * 2 ^ 54) := ⟨_, rfl⟩
  obtain ⟨R1, R2⟩ := FP.Core.sqrtFloor_spec (W * 2 ^ 54)
  rw [← hR] at R1 R2
  obtain ⟨r1, r2⟩ := root_rg w1 w2 R1 R2
  obtain ⟨T, hT⟩ : ∃ T, T = FP.Core.sqrtFloor (V * 2 ^ 54) := ⟨_, rfl⟩
  obtain ⟨T1, T2⟩ := FP.Core.sqrtFloor_spec (V * 2 ^ 54)
  rw [← hT] at T1 T2 hQ
  have e2 : (T + 1) * (T + 1) = T * T + 2 * T + 1 := by rw [Nat.add_mul, Nat.mul_add]; omega
  have hTR : 2 * T ≤ R ∧ R ≤ 2 * T + 1 := by
    constructor
    · rcases Nat.lt_or_ge R (2 * T) with z | z
      · have a := Nat.mul_le_mul (show R + 1 ≤ 2 * T by omega) (show R + 1 ≤ 2 * T by omega)
        have b : 2 * T * (2 * T) = 4 * (T * T) := by rw [Nat.mul_mul_mul_comm]
        omega
      · exact z
    · rcases Nat.lt_or_ge (2 * T + 1) R with z | z
      · have a := Nat.mul_le_mul (show 2 * (T + 1) ≤ R by omega) (show 2 * (T + 1) ≤ R by omega)
        have b : 2 * (T + 1) * (2 * (T + 1)) = 4 * ((T + 1) * (T + 1)) := by rw [Nat.mul_mul_mul_comm]
        omega
      · exact z
  obtain ⟨P, hP⟩ : ∃ P, P = V * 2 ^ 54 := ⟨_, rfl⟩
  rw [← hP] at T1 T2
  have hTl : T < 2 ^ 54 := by omega
  have cmp0 : ∀ g : Nat, T ≤ g + 64 → g ≤ T + 64 → (rsL P g < 0 ↔ T < g) := fun g a b => by
    rw [Int64.lt_iff_toInt_lt, rsL_I (rsL_rg T1 T2 hTl a b)]
    show _ < (0 : Int) ↔ _
    constructor
    · intro h
      rcases Nat.lt_or_ge T g with z | z
      · exact z
      · have := Nat.mul_le_mul z z; omega
    · intro h
      have := Nat.mul_le_mul (show T + 1 ≤ g from h) (show T + 1 ≤ g from h); omega
  have cmp2 : ∀ g : Nat, T ≤ g + 64 → g ≤ T → (rsL P g ≤ 2 * lN g ↔ g = T) := fun g a b => by
    have e : (2 : Int64) * lN g = lN (2 * g) := by
      rw [lN_oi, lN_oi, show (2 : Int64) = Int64.ofInt 2 by decide, ← Int64.ofInt_mul]
      congr 1
    have eg : (g + 1) * (g + 1) = g * g + 2 * g + 1 := by rw [Nat.add_mul, Nat.mul_add]; omega
    rw [e, Int64.le_iff_toInt_le, rsL_I (rsL_rg T1 T2 hTl a (by omega)), pf_lI (by omega)]
    constructor
    · intro h
      rcases Nat.lt_or_ge g T with z | z
      · have := Nat.mul_le_mul (show g + 1 ≤ T from z) (show g + 1 ≤ T from z); omega
      · omega
    · intro h
      subst h; omega
  have loop2 : ∀ (n i g : Nat), i + (T - g) ≤ 40 → 65 ≤ i + n → g ≤ T → T ≤ g + 20 → J mN_wholeRoot 104 [(4, vL (lN g)), (6, vL (rsL P g)), (8, vI i)] [] σ Q := by
    intro n
    induction n with
    | zero => intro i g h1 h2; exact absurd h2 (by omega)
    | succ n ih =>
      intro i g h1 h2 h3 h4
      have cm := cmp2 g (by omega) h3
      have e1 : lN g + 1 = lN (g + 1) := by
        rw [lN_oi, lN_oi, show (1 : Int64) = Int64.ofInt 1 by decide, ← Int64.ofInt_add]; rfl
      have ih2 : ¬ g = T → J mN_wholeRoot 104 [(4, vL (lN g + 1)), (6, vL (rsL P g - (2 * lN g + 1))), (8, vI (i + 1))] [] σ Q := fun h => by
        rw [e1, rsL_up]
        exact ih (i + 1) (g + 1) (by omega) (by omega) (by omega) (by omega)
      refine j_iload (p2 := 106) dN_wholeRoot_104 rfl rfl ?_
      refine j_bipush (v := 64) (p2 := 108) dN_wholeRoot_106 rfl rfl ?_
      refine j_icmp_ge (p2 := 111) (tg := 148) dN_wholeRoot_108 rfl (by decide) (by constructor <;> omega) (by constructor <;> omega) (fun h108 => ?_) (fun h108 => ?_)
      · refine j_lload (p2 := 150) dN_wholeRoot_148 rfl rfl ?_
        refine j_lreturn dN_wholeRoot_150 rfl (by first | (exfalso; omega) | (have e : g = T := cm.mp h119; subst e; exact hQ))
      · refine j_lload (p2 := 113) dN_wholeRoot_111 rfl rfl ?_
        refine j_ldc2 (p2 := 116) dN_wholeRoot_113 rfl cw_N_44 ?_
        refine j_lload (p2 := 118) dN_wholeRoot_116 rfl rfl ?_
        refine j_lmul (p2 := 119) dN_wholeRoot_118 rfl ?_
        refine j_lcmp_le (p1 := 120) (p2 := 123) (tg := 148) dN_wholeRoot_119 rfl dN_wholeRoot_120 rfl (by decide) (fun h119 => ?_) (fun h119 => ?_)
        · refine j_lload (p2 := 150) dN_wholeRoot_148 rfl rfl ?_
          refine j_lreturn dN_wholeRoot_150 rfl (by first | (exfalso; omega) | (have e : g = T := cm.mp h119; subst e; exact hQ))
        · refine j_lload (p2 := 125) dN_wholeRoot_123 rfl rfl ?_
          refine j_ldc2 (p2 := 128) dN_wholeRoot_125 rfl cw_N_44 ?_
          refine j_lload (p2 := 130) dN_wholeRoot_128 rfl rfl ?_
          refine j_lmul (p2 := 131) dN_wholeRoot_130 rfl ?_
          refine j_lconst (v := 1) (p2 := 132) dN_wholeRoot_131 rfl rfl ?_
          refine j_ladd (p2 := 133) dN_wholeRoot_132 rfl ?_
          refine j_lsub (p2 := 134) dN_wholeRoot_133 rfl ?_
          refine j_lstore (p2 := 136) (lv' := [(4, _), (6, _), (8, _)]) dN_wholeRoot_134 rfl (Nat.le_of_ble_eq_true rfl) ⟨rfl, rfl, rfl, trivial⟩ ?_
          refine j_lload (p2 := 138) dN_wholeRoot_136 rfl rfl ?_
          refine j_lconst (v := 1) (p2 := 139) dN_wholeRoot_138 rfl rfl ?_
          refine j_ladd (p2 := 140) dN_wholeRoot_139 rfl ?_
          refine j_lstore (p2 := 142) (lv' := [(4, _), (6, _), (8, _)]) dN_wholeRoot_140 rfl (Nat.le_of_ble_eq_true rfl) ⟨rfl, rfl, rfl, trivial⟩ ?_
          refine j_iinc (p2 := 145) (lv' := [(4, _), (6, _), (8, _)]) dN_wholeRoot_142 rfl (Nat.le_of_ble_eq_true rfl) rfl ⟨rfl, rfl, rfl, trivial⟩ ?_
          refine j_goto (p2 := 104) dN_wholeRoot_145 (by decide) ?_
          refine J.loc (lv' := [(4, _), (6, _), (8, _)]) ⟨rfl, rfl, rfl, trivial⟩ ?_
          exact ih2 (fun z => h119 (cm.mpr z))
  have loop1 : ∀ (n i g : Nat), i + (g - T) ≤ 40 → 65 ≤ i + n → T ≤ g + 20 → J mN_wholeRoot 62 [(4, vL (lN g)), (6, vL (rsL P g)), (8, vI i)] [] σ Q := by
    intro n
    induction n with
    | zero => intro i g h1 h2; exact absurd h2 (by omega)
    | succ n ih =>
      intro i g h1 h2 h3
      have cm := cmp0 g (by omega) (by omega)
      have ih2 : T < g → J mN_wholeRoot 62 [(4, vL (lN g - 1)), (6, vL (rsL P g + (2 * (lN g - 1) + 1))), (8, vI (i + 1))] [] σ Q := fun h => by
        have e1 : lN g - 1 = lN (g - 1) := by
          rw [lN_oi, lN_oi, show (1 : Int64) = Int64.ofInt 1 by decide, ← Int64.ofInt_sub]
          congr 1; omega
        rw [rsL_dn (by omega), e1]
        exact ih (i + 1) (g - 1) (by omega) (by omega) (by omega)
      have done : ¬ T < g → J mN_wholeRoot 101 [(4, vL (lN g)), (6, vL (rsL P g))] [] σ Q := fun h => by
        have := loop2 65 0 g (by omega) (by omega) (by omega) (by omega)
        refine j_iconst (p2 := 102) dN_wholeRoot_101 rfl ?_
        refine j_istore (p2 := 104) (lv' := [(4, _), (6, _), (8, _)]) dN_wholeRoot_102 rfl (Nat.le_of_ble_eq_true rfl) ⟨rfl, rfl, rfl, trivial⟩ ?_
        refine J.loc (lv' := [(4, _), (6, _), (8, _)]) ⟨rfl, rfl, rfl, trivial⟩ ?_
        exact this
      refine j_iload (p2 := 64) dN_wholeRoot_62 rfl rfl ?_
      refine j_bipush (v := 64) (p2 := 66) dN_wholeRoot_64 rfl rfl ?_
      refine j_icmp_ge (p2 := 69) (tg := 101) dN_wholeRoot_66 rfl (by decide) (by constructor <;> omega) (by constructor <;> omega) (fun h66 => ?_) (fun h66 => ?_)
      · refine J.loc (lv' := [(4, _), (6, _)]) ⟨rfl, rfl, trivial⟩ ?_
        first
          | (exfalso; omega)
          | exact done (fun z => h72 (cm.mpr z))
      · refine j_lload (p2 := 71) dN_wholeRoot_69 rfl rfl ?_
        refine j_lconst (v := 0) (p2 := 72) dN_wholeRoot_71 rfl rfl ?_
        refine j_lcmp_ge (p1 := 73) (p2 := 76) (tg := 101) dN_wholeRoot_72 rfl dN_wholeRoot_73 rfl (by decide) (fun h72 => ?_) (fun h72 => ?_)
        · refine J.loc (lv' := [(4, _), (6, _)]) ⟨rfl, rfl, trivial⟩ ?_
          first
            | (exfalso; omega)
            | exact done (fun z => h72 (cm.mpr z))
        · refine j_lload (p2 := 78) dN_wholeRoot_76 rfl rfl ?_
          refine j_lconst (v := 1) (p2 := 79) dN_wholeRoot_78 rfl rfl ?_
          refine j_lsub (p2 := 80) dN_wholeRoot_79 rfl ?_
          refine j_lstore (p2 := 82) (lv' := [(4, _), (6, _), (8, _)]) dN_wholeRoot_80 rfl (Nat.le_of_ble_eq_true rfl) ⟨rfl, rfl, rfl, trivial⟩ ?_
          refine j_lload (p2 := 84) dN_wholeRoot_82 rfl rfl ?_
          refine j_ldc2 (p2 := 87) dN_wholeRoot_84 rfl cw_N_44 ?_
          refine j_lload (p2 := 89) dN_wholeRoot_87 rfl rfl ?_
          refine j_lmul (p2 := 90) dN_wholeRoot_89 rfl ?_
          refine j_lconst (v := 1) (p2 := 91) dN_wholeRoot_90 rfl rfl ?_
          refine j_ladd (p2 := 92) dN_wholeRoot_91 rfl ?_
          refine j_ladd (p2 := 93) dN_wholeRoot_92 rfl ?_
          refine j_lstore (p2 := 95) (lv' := [(4, _), (6, _), (8, _)]) dN_wholeRoot_93 rfl (Nat.le_of_ble_eq_true rfl) ⟨rfl, rfl, rfl, trivial⟩ ?_
          refine j_iinc (p2 := 98) (lv' := [(4, _), (6, _), (8, _)]) dN_wholeRoot_95 rfl (Nat.le_of_ble_eq_true rfl) rfl ⟨rfl, rfl, rfl, trivial⟩ ?_
          refine j_goto (p2 := 62) dN_wholeRoot_98 (by decide) ?_
          refine J.loc (lv' := [(4, _), (6, _), (8, _)]) ⟨rfl, rfl, rfl, trivial⟩ ?_
          exact ih2 (cm.mp h72)
  have at34 : ∀ (y : UInt64) (n : Nat), dv y n (-54) → (R : Int) - 32 ≤ n → (n : Int) ≤ R + 64 → J mN_wholeRoot 34 [(0, vD v), (2, vD y)] [] σ Q := by
    intro y n hy a b
    have hS : n * 2 ^ (-54 + 1074 : Int).toNat = n * 2 ^ 1020 := rfl
    have b1 : 2 ^ 53 * 2 ^ 1020 ≤ n * 2 ^ 1020 := Nat.mul_le_mul_right _ (by omega)
    have b2 : n * 2 ^ 1020 < 2 ^ 60 * 2 ^ 1020 := Nat.mul_lt_mul_of_pos_right (by omega) (Nat.two_pow_pos _)
    rw [← Nat.pow_add] at b1 b2
    have c1 : (2 : Nat) ^ 1072 ≤ 2 ^ (53 + 1020) := Nat.pow_le_pow_right (by decide) (by decide)
    have c2 : (2 : Nat) ^ (60 + 1020) ≤ 2 ^ 1100 := Nat.pow_le_pow_right (by decide) (by decide)
    have hm := dv_mulC hy (by rw [hS]; exact Nat.le_trans c1 b1) (by rw [hS]; exact Nat.lt_of_lt_of_le b2 c2) dv_p53 (by decide) (by decide) (by decide)
    have hS2 : V * 2 ^ (-52 + 1074 : Int).toNat = V * 2 ^ 1022 := rfl
    have b3 : 2 ^ 52 * 2 ^ 1022 ≤ V * 2 ^ 1022 := Nat.mul_le_mul_right _ v1
    have b4 : V * 2 ^ 1022 < 2 ^ 54 * 2 ^ 1022 := Nat.mul_lt_mul_of_pos_right v2 (Nat.two_pow_pos _)
    rw [← Nat.pow_add] at b3 b4
    have c3 : (2 : Nat) ^ 1072 ≤ 2 ^ (52 + 1022) := Nat.pow_le_pow_right (by decide) (by decide)
    have c4 : (2 : Nat) ^ (54 + 1022) ≤ 2 ^ 1100 := Nat.pow_le_pow_right (by decide) (by decide)
    have hm2 := dv_mulC hv (by rw [hS2]; exact Nat.le_trans c3 b3) (by rw [hS2]; exact Nat.lt_of_lt_of_le b4 c4) dv_p52 (by decide) (by decide) (by decide)
    have f1 : n * 2 ^ (-54 + 53 + 1074 : Int).toNat / 2 ^ 1074 = n / 2 := by
      show n * 2 ^ 1073 / 2 ^ 1074 = n / 2
      rw [show (2 : Nat) ^ 1074 = 2 * 2 ^ 1073 by decide +kernel, Nat.mul_div_mul_right _ _ (Nat.two_pow_pos _)]
    have f2 : V * 2 ^ (-52 + 52 + 1074 : Int).toNat / 2 ^ 1074 = V := by
      show V * 2 ^ 1074 / 2 ^ 1074 = V
      exact Nat.mul_div_cancel _ (Nat.two_pow_pos _)
    have d1 : FP.d2l (FP.dmul y 4845873199050653696) = lN (n / 2) := by
      have := dv_d2l hm (by rw [f1]; omega)
      rw [f1] at this; exact this
    have d2 : FP.d2l (FP.dmul v 4841369599423283200) = lN V := by
      have := dv_d2l hm2 (by rw [f2]; omega)
      rw [f2] at this; exact this
    have d3 : jlshl (lN V) 54 - lN (n / 2) * lN (n / 2) = rsL P (n / 2) := by
      have := jl_shl V (k := 54) (by decide)
      rw [show ((54 : Nat) : Int) = 54 from rfl] at this
      rw [this, ← hP]
      unfold rsL
      rw [lN_oi, lN_oi (n / 2), ← Int64.ofInt_mul, ← Int64.ofInt_sub]
      congr 1
    refine j_dload_n (p2 := 35) dN_wholeRoot_34 rfl rfl ?_
    refine j_ldc2d (p2 := 38) dN_wholeRoot_35 rfl cw_N_42 ?_
    refine j_dmul (p2 := 39) dN_wholeRoot_38 rfl hm.nn ?_
    refine j_d2l (p2 := 40) dN_wholeRoot_39 rfl ?_
    refine j_lstore (p2 := 42) (lv' := [(0, _), (4, _)]) dN_wholeRoot_40 rfl (Nat.le_of_ble_eq_true rfl) ⟨rfl, rfl, trivial⟩ ?_
    refine j_dload_n (p2 := 43) dN_wholeRoot_42 rfl rfl ?_
    refine j_ldc2d (p2 := 46) dN_wholeRoot_43 rfl cw_N_40 ?_
    refine j_dmul (p2 := 47) dN_wholeRoot_46 rfl hm2.nn ?_
    refine j_d2l (p2 := 48) dN_wholeRoot_47 rfl ?_
    refine j_bipush (v := 54) (p2 := 50) dN_wholeRoot_48 rfl rfl ?_
    refine j_lshl (p2 := 51) dN_wholeRoot_50 rfl ?_
    refine j_lload (p2 := 53) dN_wholeRoot_51 rfl rfl ?_
    refine j_lload (p2 := 55) dN_wholeRoot_53 rfl rfl ?_
    refine j_lmul (p2 := 56) dN_wholeRoot_55 rfl ?_
    refine j_lsub (p2 := 57) dN_wholeRoot_56 rfl ?_
    refine j_lstore (p2 := 59) (lv' := [(4, _), (6, _)]) dN_wholeRoot_57 rfl (Nat.le_of_ble_eq_true rfl) ⟨rfl, rfl, trivial⟩ ?_
    refine j_iconst (p2 := 60) dN_wholeRoot_59 rfl ?_
    refine j_istore (p2 := 62) (lv' := [(4, _), (6, _), (8, _)]) dN_wholeRoot_60 rfl (Nat.le_of_ble_eq_true rfl) ⟨rfl, rfl, rfl, trivial⟩ ?_
    refine J.loc (lv' := [(4, _), (6, _), (8, _)]) ⟨rfl, rfl, rfl, trivial⟩ ?_
    rw [d1, d2, d3]
    exact loop1 65 0 (n / 2) (by omega) (by omega) (by omega)
  have loop0 : ∀ (f i n : Nat) (y : UInt64), i ≤ 6 → 7 ≤ i + f → dv y n (-54) → (R : Int) - 32 ≤ n → (n : Int) ≤ R + dlt i → J mN_wholeRoot 11 [(0, vD v), (2, vD y), (4, vI i)] [] σ Q := by
    intro f
    induction f with
    | zero => intro i n y h1 h2; exact absurd h2 (by omega)
    | succ f ih =>
      intro i n y h1 h2 hy a b
      have go : i < 6 → (∀ z, dv z n (-54) → True) → ∃ k n', _ := fun hi _ => nstep hy hvW (by omega) (by obtain ⟨_, _, _, _, d4, _⟩ := dlt_s i hi; omega) w1 w2
      have go2 : i < 6 → vf_n64 (FP.ddiv v y) ∧ vf_n64 (FP.dadd y (FP.ddiv v y)) ∧ vf_n64 (FP.dmul (FP.dadd y (FP.ddiv v y)) 4602678819172646912) ∧ J mN_wholeRoot 11 [(0, vD v), (2, vD (FP.dmul (FP.dadd y (FP.ddiv v y)) 4602678819172646912)), (4, vI (i + 1))] [] σ Q := fun hi => by
        obtain ⟨k, n', m1, m2, m3, m4, m5, m6, m7⟩ := go hi (fun _ _ => trivial)
        obtain ⟨x1, x2⟩ := nnear hi w1 w2 R1 R2 a b m2 m3 m4 m5
        exact ⟨m6, m7, m1.nn, ih (i + 1) n' _ (by omega) (by omega) m1 x1 x2⟩
      refine j_iload (p2 := 13) dN_wholeRoot_11 rfl rfl ?_
      refine j_bipush (v := 6) (p2 := 15) dN_wholeRoot_13 rfl rfl ?_
      refine j_icmp_ge (p2 := 18) (tg := 34) dN_wholeRoot_15 rfl (by decide) (by constructor <;> omega) (by constructor <;> omega) (fun h15 => ?_) (fun h15 => ?_)
      · refine J.loc (lv' := [(0, _), (2, _)]) ⟨rfl, rfl, trivial⟩ ?_
        have e : i = 6 := by omega
        subst e
        exact at34 y n hy a b
      · refine j_dload_n (p2 := 19) dN_wholeRoot_18 rfl rfl ?_
        refine j_dload_n (p2 := 20) dN_wholeRoot_19 rfl rfl ?_
        refine j_dload_n (p2 := 21) dN_wholeRoot_20 rfl rfl ?_
        refine j_ddiv (p2 := 22) dN_wholeRoot_21 rfl (by exact (go2 (by omega)).1) ?_
        refine j_dadd (p2 := 23) dN_wholeRoot_22 rfl (by exact (go2 (by omega)).2.1) ?_
        refine j_ldc2d (p2 := 26) dN_wholeRoot_23 rfl cw_N_17 ?_
        refine j_dmul (p2 := 27) dN_wholeRoot_26 rfl (by exact (go2 (by omega)).2.2.1) ?_
        refine j_dstore_n (p2 := 28) (lv' := [(0, _), (2, _), (4, _)]) dN_wholeRoot_27 rfl (Nat.le_of_ble_eq_true rfl) ⟨rfl, rfl, rfl, trivial⟩ ?_
        refine j_iinc (p2 := 31) (lv' := [(0, _), (2, _), (4, _)]) dN_wholeRoot_28 rfl (Nat.le_of_ble_eq_true rfl) rfl ⟨rfl, rfl, rfl, trivial⟩ ?_
        refine j_goto (p2 := 11) dN_wholeRoot_31 (by decide) ?_
        refine J.loc (lv' := [(0, _), (2, _), (4, _)]) ⟨rfl, rfl, rfl, trivial⟩ ?_
        exact (go2 (by omega)).2.2.2
  obtain ⟨n0, g1, g2, g3, g4⟩ := nfirst hvW w1 w2
  have g5 : (R : Int) - 32 ≤ n0 ∧ (n0 : Int) ≤ R + dlt 0 := by
    have hsq := sq_le (d := (2 ^ 54 : Int) - R) (B := 2 ^ 54) (by omega) (by omega)
    have := newton (n := (2 ^ 54 : Int)) (k := (W : Int)) (R := (R : Int)) (P := ((W * 2 ^ 54 : Nat) : Int)) (Dm := 2 ^ 54) (by decide)
      (by rw [← Int.natCast_mul]; omega) (by
        have : ((R : Int) + 1) * ((R : Int) + 1) = (((R + 1) * (R + 1) : Nat) : Int) := by rw [Int.natCast_mul, Int.natCast_add]; rfl
        rw [this]; omega) (by omega) (by omega) (by omega) hsq
    have e0 : dlt 0 = 2 ^ 53 + 64 := rfl
    rw [e0]
    omega
  refine j_dconst1 (p2 := 1) dN_wholeRoot_0 rfl ?_
  refine j_dload_n (p2 := 2) dN_wholeRoot_1 rfl rfl ?_
  refine j_dadd (p2 := 3) dN_wholeRoot_2 rfl g4 ?_
  refine j_ldc2d (p2 := 6) dN_wholeRoot_3 rfl cw_N_17 ?_
  refine j_dmul (p2 := 7) dN_wholeRoot_6 rfl g1.nn ?_
  refine j_dstore_n (p2 := 8) (lv' := [(0, _), (2, _)]) dN_wholeRoot_7 rfl (Nat.le_of_ble_eq_true rfl) ⟨rfl, rfl, trivial⟩ ?_
  refine j_iconst (p2 := 9) dN_wholeRoot_8 rfl ?_
  refine j_istore (p2 := 11) (lv' := [(0, _), (2, _), (4, _)]) dN_wholeRoot_9 rfl (Nat.le_of_ble_eq_true rfl) ⟨rfl, rfl, rfl, trivial⟩ ?_
  refine J.loc (lv' := [(0, _), (2, _), (4, _)]) ⟨rfl, rfl, rfl, trivial⟩ ?_
  exact loop0 7 0 n0 _ (by omega) (by omega) g1 g5.1 g5.2
end RT4
