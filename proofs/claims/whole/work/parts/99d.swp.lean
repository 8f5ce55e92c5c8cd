/-! ===== the panel: sweep ===== -/
def swv (f b : UInt64) (j : Int) : UInt64 := FP.dadd f (FP.dmul (FP.i2d (iw j)) b)
abbrev finL (x : Int64) : Prop := x.toUInt64.toNat % 2 ^ 63 < 2047 * 2 ^ 52
theorem dec_fin {x : Int64} (h : finL x) : FP.Core.DFin (dec x) := by
  have e : dec x = x.toUInt64 := if_pos h
  rw [e]
  exact mg.fin (K := 2047) h (by decide)
theorem i2d_6 : ∀ j : Nat, j < 7 → mg (FP.i2d (iw j)) 2047 := by unfold mg; decide +kernel
theorem sw_mul {x : Int64} (h : finL x) {j : Nat} (hj : j < 7) : vf_n64 (FP.dmul (FP.i2d (iw j)) (dec x)) := vn64_of (FP.Core.dmul_out ((i2d_6 j hj).fin (by decide)) (dec_fin h))
theorem sw_add {x y : Int64} (h : finL x) (h2 : finL y) {j : Nat} (hj : j < 7) : vf_n64 (FP.dadd (dec x) (FP.dmul (FP.i2d (iw j)) (dec y))) := vn64_of (FP.Core.dadd_out' (dec_fin h) (vn64_to (sw_mul h2 hj)))
section SWP
variable {σ : Hp} {Q : Option PV → Hp → Prop}
theorem cX_sweep {m n q c : Int} {x y : Int64} {Inv : Nat → Hp → Prop} (hz : SzC σ) (hm : inR m) (hq : inR q) (hn : inR n) (hcr : inR c) (hk : ∀ m : Int, cM σ m → inR (hI σ 4 m)) (q1 : ¬ (cM σ m ∧ cM σ q) → Q (some (vI (-101))) σ) (q2 : cM σ m → cM σ q → ¬ (((1 ≤ c ∧ c ≤ 6) ∧ 1 ≤ n ∧ n ≤ 40) ∧ finL x ∧ finL y ∧ ∀ j : Nat, (j : Int) < c → isSet (hI σ 4 m) (swv (dec x) (dec y) j) = true) → Q (some (vI (-102))) σ)
    (q3 : cM σ m → cM σ q → (((1 ≤ c ∧ c ≤ 6) ∧ 1 ≤ n ∧ n ≤ 40) ∧ finL x ∧ finL y ∧ ∀ j : Nat, (j : Int) < c → isSet (hI σ 4 m) (swv (dec x) (dec y) j) = true) → hI σ 0 9 = 0 → Q (some (vI (-103))) σ)
    (q4 : cM σ m → cM σ q → (((1 ≤ c ∧ c ≤ 6) ∧ 1 ≤ n ∧ n ≤ 40) ∧ finL x ∧ finL y ∧ ∀ j : Nat, (j : Int) < c → isSet (hI σ 4 m) (swv (dec x) (dec y) j) = true) → ¬ hI σ 0 9 = 0 → Inv 0 (wI σ 51 (fup (hI σ 51) 3 c)) ∧ (∀ (j : Nat) τ, (j : Int) < c → Inv j τ → ∀ Q' : Option PV → Hp → Prop, (∀ v ν, Inv (j + 1) (wD ν 52 (fup (hD ν 52) j v)) → Q' (some (vD v)) ν) → Sp mR_readingBehind [vR 51, vI m, vD (swv (dec x) (dec y) j), vI n, vI q] τ Q') ∧ ∀ τ, Inv c.toNat τ → Q (some (vI c)) τ) : Sp mX_sweep [vR 0, vI m, vL x, vL y, vI c, vI n, vI q] σ Q := by
  obtain ⟨z1, z2, z3⟩ := hz
  have at73 : cM σ m → cM σ q → ((1 ≤ c ∧ c ≤ 6) ∧ 1 ≤ n ∧ n ≤ 40) → finL x → finL y → J mX_sweep 73 [(0, vR 0), (1, vI m), (2, vL x), (4, vL y), (6, vI c), (7, vI n), (8, vI q)] [] σ Q := fun g1 g2 g3 g4 g5 => by
    have k1 := hk m g1
    have second : (∀ j : Nat, (j : Int) < c → isSet (hI σ 4 m) (swv (dec x) (dec y) j) = true) → ¬ hI σ 0 9 = 0 → ∀ (f i : Nat), (i : Int) + f = c → ∀ τ, Inv i τ → J mX_sweep 151 [(0, vR 0), (1, vI m), (6, vI c), (7, vI n), (8, vI q), (9, vD (dec x)), (11, vD (dec y)), (13, vI i)] [] τ Q := by
      intro ha hmd f
      obtain ⟨s1, s2, s3⟩ := q4 g1 g2 ⟨g3, g4, g5, ha⟩ hmd
      induction f with
      | zero =>
        intro i h1 τ hi
        have s3 := s3 τ (by rw [show c.toNat = i by omega]; exact hi)
        refine j_iload (p2 := 153) dX_sweep_151 rfl rfl ?_
        refine j_iload (p2 := 155) dX_sweep_153 rfl rfl ?_
        refine j_icmp_ge (p2 := 158) (tg := 195) dX_sweep_155 rfl (by decide) (by constructor <;> omega) (by constructor <;> omega) (fun h155 => ?_) (fun h155 => ?_)
        · refine j_iload (p2 := 197) dX_sweep_195 rfl rfl ?_
          refine j_ireturn dX_sweep_197 rfl (by exact s3)
        · refine J.loc (lv' := [(0, _), (1, _), (6, _), (7, _), (8, _), (9, _), (11, _), (13, _)]) ⟨rfl, rfl, rfl, rfl, rfl, rfl, rfl, rfl, trivial⟩ ?_
          exfalso
          omega
      | succ f ih =>
        intro i h1 τ hi
        have s2 := s2 i τ (by omega) hi
        have n1 := sw_mul (x := y) g5 (j := i) (by omega)
        have n2 := sw_add g4 g5 (j := i) (by omega)
        refine j_iload (p2 := 153) dX_sweep_151 rfl rfl ?_
        refine j_iload (p2 := 155) dX_sweep_153 rfl rfl ?_
        refine j_icmp_ge (p2 := 158) (tg := 195) dX_sweep_155 rfl (by decide) (by constructor <;> omega) (by constructor <;> omega) (fun h155 => ?_) (fun h155 => ?_)
        · refine j_iload (p2 := 197) dX_sweep_195 rfl rfl ?_
          refine j_ireturn dX_sweep_197 rfl (by exfalso; omega)
        · refine j_aload_n (p2 := 159) dX_sweep_158 rfl rfl ?_
          refine j_getR (p2 := 162) dX_sweep_159 rfl fa_X_56 ly_0 rfl ?_
          refine j_getR (p2 := 165) dX_sweep_162 rfl fa_X_256 ly_51 rfl ?_
          refine j_iload (p2 := 167) dX_sweep_165 rfl rfl ?_
          refine j_aload_n (p2 := 168) dX_sweep_167 rfl rfl ?_
          refine j_getR (p2 := 171) dX_sweep_168 rfl fa_X_56 ly_0 rfl ?_
          refine j_iload_n (p2 := 172) dX_sweep_171 rfl rfl ?_
          refine j_dload (p2 := 174) dX_sweep_172 rfl rfl ?_
          refine j_iload (p2 := 176) dX_sweep_174 rfl rfl ?_
          refine j_i2d (p2 := 177) dX_sweep_176 rfl ?_
          refine j_dload (p2 := 179) dX_sweep_177 rfl rfl ?_
          refine j_dmul (p2 := 180) dX_sweep_179 rfl (by assumption) ?_
          refine j_dadd (p2 := 181) dX_sweep_180 rfl (by assumption) ?_
          refine j_iload (p2 := 183) dX_sweep_181 rfl rfl ?_
          refine j_iload (p2 := 185) dX_sweep_183 rfl rfl ?_
          refine j_callV (m' := mR_readingBehind) (As := [_, _, _, _]) (p2 := 188) dX_sweep_185 rfl ml_X_259 ok_mR_readingBehind im_mR_readingBehind se_mR_readingBehind rfl rfl (Nat.le_of_ble_eq_true rfl) ly_51 rfl (Nat.le_of_ble_eq_true rfl) ⟨(Nat.le_of_ble_eq_true rfl), (Nat.le_of_ble_eq_true rfl)⟩ ?_
          refine s2 _ (fun v ν hv => ?_)
          refine j_dastk (p2 := 189) dX_sweep_188 rfl ly_52 (by decide) (by omega) (by omega) ?_
          refine j_iinc (p2 := 192) (lv' := [(0, _), (1, _), (6, _), (7, _), (8, _), (9, _), (11, _), (13, _)]) dX_sweep_189 rfl (Nat.le_of_ble_eq_true rfl) rfl ⟨rfl, rfl, rfl, rfl, rfl, rfl, rfl, rfl, trivial⟩ ?_
          refine j_goto (p2 := 151) dX_sweep_192 (by decide) ?_
          refine J.loc (lv' := [(0, _), (1, _), (6, _), (7, _), (8, _), (9, _), (11, _), (13, _)]) ⟨rfl, rfl, rfl, rfl, rfl, rfl, rfl, rfl, trivial⟩ ?_
          exact ih (i + 1) (by omega) _ hv
    have at129 : (∀ j : Nat, (j : Int) < c → isSet (hI σ 4 m) (swv (dec x) (dec y) j) = true) → J mX_sweep 129 [(0, vR 0), (1, vI m), (6, vI c), (7, vI n), (8, vI q), (9, vD (dec x)), (11, vD (dec y))] [] σ Q := fun ha => by
      refine j_aload_n (p2 := 130) dX_sweep_129 rfl rfl ?_
      refine j_getIk (p2 := 133) dX_sweep_130 rfl fa_X_68 ly_0 rfl (ki := 9) rfl ?_
      refine j_if_ne (p2 := 136) (tg := 139) dX_sweep_133 rfl (by decide) (by exact z2) (fun h133 => ?_) (fun h133 => ?_)
      · refine j_aload_n (p2 := 140) dX_sweep_139 rfl rfl ?_
        refine j_getR (p2 := 143) dX_sweep_140 rfl fa_X_56 ly_0 rfl ?_
        refine j_iload (p2 := 145) dX_sweep_143 rfl rfl ?_
        refine j_putIk (p2 := 148) dX_sweep_145 rfl fw_X_253 ly_51 rfl (ki := 3) rfl ?_
        refine j_iconst (p2 := 149) dX_sweep_148 rfl ?_
        refine j_istore (p2 := 151) (lv' := [(0, _), (1, _), (6, _), (7, _), (8, _), (9, _), (11, _), (13, _)]) dX_sweep_149 rfl (Nat.le_of_ble_eq_true rfl) ⟨rfl, rfl, rfl, rfl, rfl, rfl, rfl, rfl, trivial⟩ ?_
        refine J.loc (lv' := [(0, _), (1, _), (6, _), (7, _), (8, _), (9, _), (11, _), (13, _)]) ⟨rfl, rfl, rfl, rfl, rfl, rfl, rfl, rfl, trivial⟩ ?_
        exact second ha h133 c.toNat 0 (by omega) _ (q4 g1 g2 ⟨g3, g4, g5, ha⟩ h133).1
      · refine j_bipush (v := (-103)) (p2 := 138) dX_sweep_136 rfl rfl ?_
        refine j_ireturn dX_sweep_138 rfl (by exact q3 g1 g2 ⟨g3, g4, g5, ha⟩ h133)
    have loop : ∀ (f i : Nat), (i : Int) + f = c → (∀ j : Nat, j < i → isSet (hI σ 4 m) (swv (dec x) (dec y) j) = true) → J mX_sweep 89 [(0, vR 0), (1, vI m), (6, vI c), (7, vI n), (8, vI q), (9, vD (dec x)), (11, vD (dec y)), (13, vI i)] [] σ Q := by
      intro f
      induction f with
      | zero =>
        intro i h1 ha
        refine j_iload (p2 := 91) dX_sweep_89 rfl rfl ?_
        refine j_iload (p2 := 93) dX_sweep_91 rfl rfl ?_
        refine j_icmp_ge (p2 := 96) (tg := 129) dX_sweep_93 rfl (by decide) (by constructor <;> omega) (by constructor <;> omega) (fun h93 => ?_) (fun h93 => ?_)
        · refine J.loc (lv' := [(0, _), (1, _), (6, _), (7, _), (8, _), (9, _), (11, _)]) ⟨rfl, rfl, rfl, rfl, rfl, rfl, rfl, trivial⟩ ?_
          exact at129 (fun j hj => ha j (by omega))
        · refine J.loc (lv' := [(0, _), (1, _), (6, _), (7, _), (8, _), (9, _), (11, _), (13, _)]) ⟨rfl, rfl, rfl, rfl, rfl, rfl, rfl, rfl, trivial⟩ ?_
          exfalso
          omega
      | succ f ih =>
        intro i h1 ha
        have n1 := sw_mul (x := y) g5 (j := i) (by omega)
        have n2 := sw_add g4 g5 (j := i) (by omega)
        refine j_iload (p2 := 91) dX_sweep_89 rfl rfl ?_
        refine j_iload (p2 := 93) dX_sweep_91 rfl rfl ?_
        refine j_icmp_ge (p2 := 96) (tg := 129) dX_sweep_93 rfl (by decide) (by constructor <;> omega) (by constructor <;> omega) (fun h93 => ?_) (fun h93 => ?_)
        · refine J.loc (lv' := [(0, _), (1, _), (6, _), (7, _), (8, _), (9, _), (11, _)]) ⟨rfl, rfl, rfl, rfl, rfl, rfl, rfl, trivial⟩ ?_
          exfalso
          omega
        · refine j_aload_n (p2 := 97) dX_sweep_96 rfl rfl ?_
          refine j_getR (p2 := 100) dX_sweep_97 rfl fa_X_10 ly_0 rfl ?_
          refine j_getR (p2 := 103) dX_sweep_100 rfl fa_X_97 ly_3 rfl ?_
          refine j_iload_n (p2 := 104) dX_sweep_103 rfl rfl ?_
          refine j_iald (p2 := 105) dX_sweep_104 rfl ly_4 (by decide) (by omega) (by omega) ?_
          refine j_dload (p2 := 107) dX_sweep_105 rfl rfl ?_
          refine j_iload (p2 := 109) dX_sweep_107 rfl rfl ?_
          refine j_i2d (p2 := 110) dX_sweep_109 rfl ?_
          refine j_dload (p2 := 112) dX_sweep_110 rfl rfl ?_
          refine j_dmul (p2 := 113) dX_sweep_112 rfl (by assumption) ?_
          refine j_dadd (p2 := 114) dX_sweep_113 rfl (by assumption) ?_
          refine j_callS (m' := mP_fits) (As := [_, _]) (p2 := 117) dX_sweep_114 rfl ml_X_78 ok_mP_fits sm_mP_fits rfl rfl (Nat.le_of_ble_eq_true rfl) (Nat.le_of_ble_eq_true rfl) ⟨(Nat.le_of_ble_eq_true rfl), (Nat.le_of_ble_eq_true rfl)⟩ ?_
          refine cP_fits k1 n2 ?_
          refine j_ifb_ne (p2 := 120) (tg := 123) dX_sweep_117 rfl (by decide) (fun h117 => ?_) (fun h117 => ?_)
          · refine j_iinc (p2 := 126) (lv' := [(0, _), (1, _), (6, _), (7, _), (8, _), (9, _), (11, _), (13, _)]) dX_sweep_123 rfl (Nat.le_of_ble_eq_true rfl) rfl ⟨rfl, rfl, rfl, rfl, rfl, rfl, rfl, rfl, trivial⟩ ?_
            refine j_goto (p2 := 89) dX_sweep_126 (by decide) ?_
            refine J.loc (lv' := [(0, _), (1, _), (6, _), (7, _), (8, _), (9, _), (11, _), (13, _)]) ⟨rfl, rfl, rfl, rfl, rfl, rfl, rfl, rfl, trivial⟩ ?_
            refine ih (i + 1) (by omega) (fun j hj => ?_)
            by_cases e : j = i
            · rw [e]; exact h117
            · exact ha j (by omega)
          · refine j_bipush (v := (-102)) (p2 := 122) dX_sweep_120 rfl rfl ?_
            refine j_ireturn dX_sweep_122 rfl (by refine q2 g1 g2 (fun z => ?_); have w := z.2.2.2 i (by omega); exact absurd (w.symm.trans h117) (by decide))
    refine j_lload_n (p2 := 74) dX_sweep_73 rfl rfl ?_
    refine j_callS (m' := mN_decoded) (As := [_]) (p2 := 77) dX_sweep_74 rfl ml_X_72 ok_mN_decoded sm_mN_decoded rfl rfl (Nat.le_of_ble_eq_true rfl) (Nat.le_of_ble_eq_true rfl) ⟨(Nat.le_of_ble_eq_true rfl), (Nat.le_of_ble_eq_true rfl)⟩ ?_
    refine cN_decoded ?_
    refine j_dstore (p2 := 79) (lv' := [(0, _), (1, _), (4, _), (6, _), (7, _), (8, _), (9, _)]) dX_sweep_77 rfl (Nat.le_of_ble_eq_true rfl) ⟨rfl, rfl, rfl, rfl, rfl, rfl, rfl, trivial⟩ ?_
    refine j_lload (p2 := 81) dX_sweep_79 rfl rfl ?_
    refine j_callS (m' := mN_decoded) (As := [_]) (p2 := 84) dX_sweep_81 rfl ml_X_72 ok_mN_decoded sm_mN_decoded rfl rfl (Nat.le_of_ble_eq_true rfl) (Nat.le_of_ble_eq_true rfl) ⟨(Nat.le_of_ble_eq_true rfl), (Nat.le_of_ble_eq_true rfl)⟩ ?_
    refine cN_decoded ?_
    refine j_dstore (p2 := 86) (lv' := [(0, _), (1, _), (6, _), (7, _), (8, _), (9, _), (11, _)]) dX_sweep_84 rfl (Nat.le_of_ble_eq_true rfl) ⟨rfl, rfl, rfl, rfl, rfl, rfl, rfl, trivial⟩ ?_
    refine j_iconst (p2 := 87) dX_sweep_86 rfl ?_
    refine j_istore (p2 := 89) (lv' := [(0, _), (1, _), (6, _), (7, _), (8, _), (9, _), (11, _), (13, _)]) dX_sweep_87 rfl (Nat.le_of_ble_eq_true rfl) ⟨rfl, rfl, rfl, rfl, rfl, rfl, rfl, rfl, trivial⟩ ?_
    refine J.loc (lv' := [(0, _), (1, _), (6, _), (7, _), (8, _), (9, _), (11, _), (13, _)]) ⟨rfl, rfl, rfl, rfl, rfl, rfl, rfl, rfl, trivial⟩ ?_
    exact loop c.toNat 0 (by omega) (fun j hj => by omega)
  have at26 : cM σ m → cM σ q → J mX_sweep 26 [(0, vR 0), (1, vI m), (2, vL x), (4, vL y), (6, vI c), (7, vI n), (8, vI q)] [] σ Q := fun g1 g2 => by
    refine j_iload (p2 := 28) dX_sweep_26 rfl rfl ?_
    refine j_iconst (p2 := 29) dX_sweep_28 rfl ?_
    refine j_icmp_lt (p2 := 32) (tg := 52) dX_sweep_29 rfl (by decide) (by constructor <;> omega) (by constructor <;> omega) (fun h29 => ?_) (fun h29 => ?_)
    · refine j_bipush (v := (-102)) (p2 := 54) dX_sweep_52 rfl rfl ?_
      refine j_ireturn dX_sweep_54 rfl (by first | exact q2 g1 g2 (fun z => by have z := z.1; omega) | (have w := of_decide_eq_false h59; exact q2 g1 g2 (fun z => w z.2.1)) | (have w := of_decide_eq_false h67; exact q2 g1 g2 (fun z => w z.2.2.1)))
    · refine j_iload (p2 := 34) dX_sweep_32 rfl rfl ?_
      refine j_bipush (v := 6) (p2 := 36) dX_sweep_34 rfl rfl ?_
      refine j_icmp_gt (p2 := 39) (tg := 52) dX_sweep_36 rfl (by decide) (by constructor <;> omega) (by constructor <;> omega) (fun h36 => ?_) (fun h36 => ?_)
      · refine j_bipush (v := (-102)) (p2 := 54) dX_sweep_52 rfl rfl ?_
        refine j_ireturn dX_sweep_54 rfl (by first | exact q2 g1 g2 (fun z => by have z := z.1; omega) | (have w := of_decide_eq_false h59; exact q2 g1 g2 (fun z => w z.2.1)) | (have w := of_decide_eq_false h67; exact q2 g1 g2 (fun z => w z.2.2.1)))
      · refine j_iload (p2 := 41) dX_sweep_39 rfl rfl ?_
        refine j_iconst (p2 := 42) dX_sweep_41 rfl ?_
        refine j_icmp_lt (p2 := 45) (tg := 52) dX_sweep_42 rfl (by decide) (by constructor <;> omega) (by constructor <;> omega) (fun h42 => ?_) (fun h42 => ?_)
        · refine j_bipush (v := (-102)) (p2 := 54) dX_sweep_52 rfl rfl ?_
          refine j_ireturn dX_sweep_54 rfl (by first | exact q2 g1 g2 (fun z => by have z := z.1; omega) | (have w := of_decide_eq_false h59; exact q2 g1 g2 (fun z => w z.2.1)) | (have w := of_decide_eq_false h67; exact q2 g1 g2 (fun z => w z.2.2.1)))
        · refine j_iload (p2 := 47) dX_sweep_45 rfl rfl ?_
          refine j_bipush (v := 40) (p2 := 49) dX_sweep_47 rfl rfl ?_
          refine j_icmp_le (p2 := 52) (tg := 55) dX_sweep_49 rfl (by decide) (by constructor <;> omega) (by constructor <;> omega) (fun h49 => ?_) (fun h49 => ?_)
          · refine j_lload_n (p2 := 56) dX_sweep_55 rfl rfl ?_
            refine j_callS (m' := mN_isFinite) (As := [_]) (p2 := 59) dX_sweep_56 rfl ml_X_249 ok_mN_isFinite sm_mN_isFinite rfl rfl (Nat.le_of_ble_eq_true rfl) (Nat.le_of_ble_eq_true rfl) ⟨(Nat.le_of_ble_eq_true rfl), (Nat.le_of_ble_eq_true rfl)⟩ ?_
            refine cN_isFinite ?_
            refine j_ifb_eq (p2 := 62) (tg := 70) dX_sweep_59 rfl (by decide) (fun h59 => ?_) (fun h59 => ?_)
            · refine j_bipush (v := (-102)) (p2 := 72) dX_sweep_70 rfl rfl ?_
              refine j_ireturn dX_sweep_72 rfl (by first | exact q2 g1 g2 (fun z => by have z := z.1; omega) | (have w := of_decide_eq_false h59; exact q2 g1 g2 (fun z => w z.2.1)) | (have w := of_decide_eq_false h67; exact q2 g1 g2 (fun z => w z.2.2.1)))
            · refine j_lload (p2 := 64) dX_sweep_62 rfl rfl ?_
              refine j_callS (m' := mN_isFinite) (As := [_]) (p2 := 67) dX_sweep_64 rfl ml_X_249 ok_mN_isFinite sm_mN_isFinite rfl rfl (Nat.le_of_ble_eq_true rfl) (Nat.le_of_ble_eq_true rfl) ⟨(Nat.le_of_ble_eq_true rfl), (Nat.le_of_ble_eq_true rfl)⟩ ?_
              refine cN_isFinite ?_
              refine j_ifb_ne (p2 := 70) (tg := 73) dX_sweep_67 rfl (by decide) (fun h67 => ?_) (fun h67 => ?_)
              · refine J.loc (lv' := [(0, _), (1, _), (2, _), (4, _), (6, _), (7, _), (8, _)]) ⟨rfl, rfl, rfl, rfl, rfl, rfl, rfl, trivial⟩ ?_
                exact at73 g1 g2 (by omega) (dec_t h59) (dec_t h67)
              · refine j_bipush (v := (-102)) (p2 := 72) dX_sweep_70 rfl rfl ?_
                refine j_ireturn dX_sweep_72 rfl (by first | exact q2 g1 g2 (fun z => by have z := z.1; omega) | (have w := of_decide_eq_false h59; exact q2 g1 g2 (fun z => w z.2.1)) | (have w := of_decide_eq_false h67; exact q2 g1 g2 (fun z => w z.2.2.1)))
          · refine j_bipush (v := (-102)) (p2 := 54) dX_sweep_52 rfl rfl ?_
            refine j_ireturn dX_sweep_54 rfl (by first | exact q2 g1 g2 (fun z => by have z := z.1; omega) | (have w := of_decide_eq_false h59; exact q2 g1 g2 (fun z => w z.2.1)) | (have w := of_decide_eq_false h67; exact q2 g1 g2 (fun z => w z.2.2.1)))
  refine j_aload_n (p2 := 1) dX_sweep_0 rfl rfl ?_
  refine j_getR (p2 := 4) dX_sweep_1 rfl fa_X_10 ly_0 rfl ?_
  refine j_iload_n (p2 := 5) dX_sweep_4 rfl rfl ?_
  refine j_callV (m' := mP_has) (As := [_]) (p2 := 8) dX_sweep_5 rfl ml_X_89 ok_mP_has im_mP_has se_mP_has rfl rfl (Nat.le_of_ble_eq_true rfl) ly_3 rfl (Nat.le_of_ble_eq_true rfl) ⟨(Nat.le_of_ble_eq_true rfl), (Nat.le_of_ble_eq_true rfl)⟩ ?_
  refine cP_has hm z1 ?_
  refine j_ifb_eq (p2 := 11) (tg := 23) dX_sweep_8 rfl (by decide) (fun h8 => ?_) (fun h8 => ?_)
  · refine j_bipush (v := (-101)) (p2 := 25) dX_sweep_23 rfl rfl ?_
    refine j_ireturn dX_sweep_25 rfl (by first | (have w := of_decide_eq_false h8; exact q1 (fun z => w z.1)) | (have w := of_decide_eq_false h20; exact q1 (fun z => w z.2)))
  · refine j_aload_n (p2 := 12) dX_sweep_11 rfl rfl ?_
    refine j_getR (p2 := 15) dX_sweep_12 rfl fa_X_10 ly_0 rfl ?_
    refine j_iload (p2 := 17) dX_sweep_15 rfl rfl ?_
    refine j_callV (m' := mP_has) (As := [_]) (p2 := 20) dX_sweep_17 rfl ml_X_89 ok_mP_has im_mP_has se_mP_has rfl rfl (Nat.le_of_ble_eq_true rfl) ly_3 rfl (Nat.le_of_ble_eq_true rfl) ⟨(Nat.le_of_ble_eq_true rfl), (Nat.le_of_ble_eq_true rfl)⟩ ?_
    refine cP_has hq z1 ?_
    refine j_ifb_ne (p2 := 23) (tg := 26) dX_sweep_20 rfl (by decide) (fun h20 => ?_) (fun h20 => ?_)
    · refine J.loc (lv' := [(0, _), (1, _), (2, _), (4, _), (6, _), (7, _), (8, _)]) ⟨rfl, rfl, rfl, rfl, rfl, rfl, rfl, trivial⟩ ?_
      exact at26 (dec_t h8) (dec_t h20)
    · refine j_bipush (v := (-101)) (p2 := 25) dX_sweep_23 rfl rfl ?_
      refine j_ireturn dX_sweep_25 rfl (by first | (have w := of_decide_eq_false h8; exact q1 (fun z => w z.1)) | (have w := of_decide_eq_false h20; exact q1 (fun z => w z.2)))
end SWP
