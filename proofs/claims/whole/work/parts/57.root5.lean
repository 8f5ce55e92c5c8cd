/-! ===== the class's numbers: root ===== -/
theorem dv_hi {x : UInt64} {c : Nat} {q : Int} (h : dv x c q) (hc : c ≤ 2 ^ 53) (hq : q ≤ 900) : ∃ c' q', dv x c' q' ∧ c' < 2 ^ 53 ∧ q ≤ q' ∧ q' ≤ q + 1 ∧ ∀ k : Int, -1074 ≤ q + k → c * 2 ^ (q + k + 1074).toNat = c' * 2 ^ (q' + k + 1074).toNat := by
  rcases Nat.lt_or_eq_of_le hc with g | g
  · exact ⟨c, q, h, g, by omega, by omega, fun _ _ => rfl⟩
  · have hq0 := h.q
    have e : ∀ k : Int, -1074 ≤ q + k → c * 2 ^ (q + k + 1074).toNat = 2 ^ 52 * 2 ^ (q + 1 + k + 1074).toNat := fun k hk => by
      rw [g, show (q + 1 + k + 1074).toNat = 1 + (q + k + 1074).toNat by omega, Nat.pow_add, ← Nat.mul_assoc]
    have e0 := e 0 (by omega)
    rw [Int.add_zero, Int.add_zero] at e0
    exact ⟨2 ^ 52, q + 1, h.cg (by omega) e0, by decide, by omega, by omega, e⟩
theorem dv_mulE {x y : UInt64} {c : Nat} {q k : Int} (h : dv x c q) (hy : dv y 1 k) (hc : c ≤ 2 ^ 53) (hq : q ≤ 900) (h1 : -1074 ≤ q + k) (h2 : q + k ≤ 900) : dv (FP.dmul x y) c (q + k) := by
  obtain ⟨c', q', a1, a2, a3, a4, a5⟩ := dv_hi h hc hq
  have := dv_mul a1 hy a2 (by omega) (by omega)
  exact this.cg h1 (a5 k h1).symm
theorem dv_divE {x y : UInt64} {c : Nat} {q k : Int} (h : dv x c q) (hy : dv y 1 k) (hc : c ≤ 2 ^ 53) (hq : q ≤ 900) (h1 : -1074 ≤ q - k) (h2 : q - k ≤ 900) : dv (FP.ddiv x y) c (q - k) := by
  obtain ⟨c', q', a1, a2, a3, a4, a5⟩ := dv_hi h hc hq
  have := dv_div a1 hy a2 (by omega) (by omega)
  have e := a5 (-k) (by omega)
  exact this.cg h1 (by rw [show q' - k = q' + -k by omega, show q - k = q + -k by omega]; exact e.symm)
theorem dv_rndE {c : Nat} {q : Int} (hc : c ≤ 2 ^ 53) (h1 : -1074 ≤ q) (h2 : q ≤ 900) : dv (FP.Core.of64 (FP.Core.round FP.Core.b64 (.fin false c q))) c q := by
  have hv := FP.Core.val64_of64 (FP.Core.round_fits FP.Core.good_b64 (.fin false c q))
  rcases Nat.lt_or_eq_of_le hc with g | g
  · exact dv_rnd hv g h1 (by omega)
  · have e : FP.Core.round FP.Core.b64 (.fin false c q) = FP.Core.round FP.Core.b64 (.fin false (2 ^ 52) (q + 1)) := by
      refine FP.Core.roundRatio_congr (by decide) (by decide) ?_
      rw [g, show (q - (q + 1)).toNat = 0 by omega, show (q + 1 - q).toNat = 1 by omega]
    have := dv_rnd (hv.trans e) (by decide) (by omega) (by omega)
    refine this.cg h1 ?_
    rw [g, show (q + 1 + 1074).toNat = 1 + (q + 1074).toNat by omega, Nat.pow_add, ← Nat.mul_assoc]
section RT5
variable {σ : Hp} {Q : Option PV → Hp → Prop}
theorem cN_rootp {x : UInt64} (h0 : 0 < x.toNat) (h2 : x.toNat < 1024 * 2 ^ 52) (hQ : Q (some (vD (rootP x))) σ) : Sp mN_root [vD x] σ Q := by
  have h1 : x.toNat < 2047 * 2 ^ 52 := by omega
  have hval := val_bits (z := x) rfl h1
  obtain ⟨c, q, hv, hc0, hc, hq1, hq2⟩ : ∃ c q, FP.Core.val64 x = .fin false c q ∧ 0 < c ∧ c < 2 ^ 53 ∧ -1074 ≤ q ∧ q ≤ -52 := by
    by_cases g : x.toNat / 2 ^ 52 = 0
    · rw [if_pos g] at hval
      exact ⟨_, _, hval, by omega, by omega, by omega, by omega⟩
    · rw [if_neg g] at hval
      exact ⟨_, _, hval, by omega, by omega, by omega, by omega⟩
  rw [rootP_X hv] at hQ
  have hx := dv_of hv
  have l1 := Nat.log2_self_le (n := c) (by omega)
  have l2 := Nat.lt_log2_self (n := c)
  have hl := (Nat.log2_lt (n := c) (k := 53) (by omega)).mpr hc
  obtain ⟨L, hL⟩ : ∃ L, L = c.log2 := ⟨_, rfl⟩
  rw [← hL] at l1 l2 hl hQ
  have hgt : FP.dcmp x FP.dconst0 = some .gt := (dv_gt hx dv_c0).mpr (by
    rw [Nat.zero_mul]; exact Nat.mul_pos hc0 (Nat.two_pow_pos _))
  have fin : ∀ (v back : UInt64) (e j : Int), dv v c e → dv back 1 (-j) → e = q + 2 * j → 0 ≤ e + L → e + L ≤ 1 → -600 ≤ j → j ≤ 600 → J mN_root 87 [(2, vD v), (4, vD back)] [] σ Q := by
    intro v back e j hv hb he e1 e2 j1 j2
    obtain ⟨V, hV⟩ : ∃ V, V = c * 2 ^ (e + 52).toNat := ⟨_, rfl⟩
    have hvV : dv v V (-52) := hv.cg (by decide) (by
      rw [hV, Nat.mul_assoc, ← Nat.pow_add, show (e + 52).toNat + (-52 + 1074 : Int).toNat = (e + 1074).toNat by omega])
    have v1 : 2 ^ 52 ≤ V := by
      have := Nat.mul_le_mul_right (2 ^ (e + 52).toNat) l1
      rw [← Nat.pow_add, ← hV] at this
      exact Nat.le_trans (Nat.pow_le_pow_right (by decide) (by omega)) this
    have v2 : V < 2 ^ 54 := by
      have := Nat.mul_lt_mul_of_pos_right l2 (Nat.two_pow_pos (e + 52).toNat)
      rw [← Nat.pow_add, ← hV] at this
      exact Nat.lt_of_lt_of_le this (Nat.pow_le_pow_right (by decide) (by omega))
    obtain ⟨T, hT⟩ : ∃ T, T = FP.Core.sqrtFloor (V * 2 ^ 54) := ⟨_, rfl⟩
    obtain ⟨T1, T2⟩ := FP.Core.sqrtFloor_spec (V * 2 ^ 54)
    rw [← hT] at T1 T2
    have hTl : T < 2 ^ 54 := by
      rcases Nat.lt_or_ge T (2 ^ 54) with z | z
      · exact z
      · have := Nat.mul_le_mul z z; omega
    have e5 : jlshr (lN T + 1) 1 = lN ((T + 1) / 2) := by
      have a : lN T + 1 = lN (T + 1) := by
        rw [lN_oi, lN_oi, show (1 : Int64) = Int64.ofInt 1 by decide, ← Int64.ofInt_add]; rfl
      have := jl_shr (n := T + 1) (k := 1) (by omega) (by decide)
      rw [a]
      rw [Nat.pow_one] at this
      exact this
    have hr : (T + 1) / 2 ≤ 2 ^ 53 := by omega
    have d1 := dv_l2d' hr
    have d2 := dv_divE d1 dv_p52 hr (by decide) (by decide) (by decide)
    have d3 := dv_mulE d2 hb hr (by decide) (by omega) (by omega)
    have hX : rootX (c * 2 ^ (52 - (L : Int)).toNat) (q + (L : Int) - 52) = FP.Core.of64 (FP.Core.round FP.Core.b64 (.fin false ((T + 1) / 2) (-j - 52))) := by
      unfold rootX
      by_cases g : e + (L : Int) = 0
      · rw [if_pos (show (q + (L : Int) - 52) % 2 = 0 by omega), if_pos (show (q + (L : Int) - 52) % 2 = 0 by omega), hT, hV, show (q + (L : Int) - 52) / 2 - 26 = -j - 52 by omega, show (52 - (L : Int)).toNat = (e + 52).toNat by omega]
      · rw [if_neg (show ¬ (q + (L : Int) - 52) % 2 = 0 by omega), if_neg (show ¬ (q + (L : Int) - 52) % 2 = 0 by omega), hT, hV, show (q + (L : Int) - 52 - 1) / 2 - 26 = -j - 52 by omega]
        have : c * 2 ^ (e + 52).toNat = 2 * (c * 2 ^ (52 - (L : Int)).toNat) := by
          rw [show (e + 52).toNat = (52 - (L : Int)).toNat + 1 by omega, Nat.pow_succ, ← Nat.mul_assoc, Nat.mul_comm _ 2]
        rw [this]
    have d4 := dv_rndE (c := (T + 1) / 2) (q := -j - 52) hr (by omega) (by omega)
    have heq : FP.dmul (FP.ddiv (FP.l2d (lN ((T + 1) / 2))) 4841369599423283200) back = rootX (c * 2 ^ (52 - (L : Int)).toNat) (q + (L : Int) - 52) := by
      rw [hX]
      exact d3.uniq d4 (by rw [show (0 : Int) - 52 + -j + 1074 = -j - 52 + 1074 by omega])
    refine j_dload_n (p2 := 88) dN_root_87 rfl rfl ?_
    refine j_callS (m' := mN_wholeRoot) (As := [_]) (p2 := 91) dN_root_88 rfl ml_N_36 ok_mN_wholeRoot sm_mN_wholeRoot rfl rfl (Nat.le_of_ble_eq_true rfl) (Nat.le_of_ble_eq_true rfl) ⟨(Nat.le_of_ble_eq_true rfl), (Nat.le_of_ble_eq_true rfl)⟩ ?_
    refine cN_wholeRoot hvV v1 v2 ?_
    rw [← hT]
    refine j_lstore (p2 := 93) (lv' := [(4, _), (6, _)]) dN_root_91 rfl (Nat.le_of_ble_eq_true rfl) ⟨rfl, rfl, trivial⟩ ?_
    refine j_lload (p2 := 95) dN_root_93 rfl rfl ?_
    refine j_lconst (v := 1) (p2 := 96) dN_root_95 rfl rfl ?_
    refine j_ladd (p2 := 97) dN_root_96 rfl ?_
    refine j_iconst (p2 := 98) dN_root_97 rfl ?_
    refine j_lshr (p2 := 99) dN_root_98 rfl ?_
    refine j_l2d (p2 := 100) dN_root_99 rfl ?_
    refine j_ldc2d (p2 := 103) dN_root_100 rfl cw_N_40 ?_
    refine j_ddiv (p2 := 104) dN_root_103 rfl (by rw [e5]; exact d2.nn) ?_
    refine j_dload (p2 := 106) dN_root_104 rfl rfl ?_
    refine j_dmul (p2 := 107) dN_root_106 rfl (by rw [e5]; exact d3.nn) ?_
    refine j_dreturn dN_root_107 rfl (by rw [e5, heq]; exact hQ)
  have loop2 : ∀ (n i : Nat) (v b : UInt64) (e j : Int), i ≤ 40 → 41 ≤ i + n → dv v c e → dv b 1 (-j) → e = q + 2 * j → -32 + 2 * (i : Int) ≤ e + L → e + (L : Int) ≤ 1 → 0 ≤ j → e ≤ 971 → j ≤ 560 → J mN_root 54 [(2, vD v), (4, vD b), (6, vI i)] [] σ Q := by
    intro n
    induction n with
    | zero => intro i v b e j a1 a2; exact absurd a2 (by omega)
    | succ n ih =>
      intro i v b e j a1 a2 hv hb he e1 e2 e3 e4 e5
      have cmp := dv_ltp hv dv_c1 hc0
      rw [← hL] at cmp
      have nx : e + (L : Int) < 0 → dv (FP.dmul v 4616189618054758400) c (e + 2) ∧ dv (FP.dmul b 4602678819172646912) 1 (-(j + 1)) := fun g => by
        refine ⟨dv_mul hv dv_4 hc (by omega) (by omega), ?_⟩
        have := dv_mul hb dv_h (by decide) (by omega) (by omega)
        rw [show -j + -1 = -(j + 1) by omega] at this
        exact this
      have ih2 : e + (L : Int) < 0 → J mN_root 54 [(2, vD (FP.dmul v 4616189618054758400)), (4, vD (FP.dmul b 4602678819172646912)), (6, vI (i + 1))] [] σ Q := fun g => by
        obtain ⟨n1, n2⟩ := nx g
        exact ih (i + 1) _ _ (e + 2) (j + 1) (by omega) (by omega) n1 n2 (by omega) (by omega) (by omega) (by omega) (by omega) (by omega)
      have done : ¬ e + (L : Int) < 0 → J mN_root 87 [(2, vD v), (4, vD b)] [] σ Q := fun g => fin v b e j hv hb he (by omega) (by omega) (by omega) (by omega)
      refine j_iload (p2 := 56) dN_root_54 rfl rfl ?_
      refine j_bipush (v := 40) (p2 := 58) dN_root_56 rfl rfl ?_
      refine j_icmp_ge (p2 := 61) (tg := 87) dN_root_58 rfl (by decide) (by constructor <;> omega) (by constructor <;> omega) (fun h58 => ?_) (fun h58 => ?_)
      · refine J.loc (lv' := [(2, _), (4, _)]) ⟨rfl, rfl, trivial⟩ ?_
        first
          | (exfalso; omega)
          | exact done (fun z => h63 (cmp.mpr z))
          | exact done (by omega)
      · refine j_dload_n (p2 := 62) dN_root_61 rfl rfl ?_
        refine j_dconst1 (p2 := 63) dN_root_62 rfl ?_
        refine j_dcmp_g_ge (p1 := 64) (p2 := 67) (tg := 87) dN_root_63 rfl dN_root_64 rfl (by decide) (fun h63 => ?_) (fun h63 => ?_)
        · refine J.loc (lv' := [(2, _), (4, _)]) ⟨rfl, rfl, trivial⟩ ?_
          first
            | (exfalso; omega)
            | exact done (fun z => h63 (cmp.mpr z))
            | exact done (by omega)
        · refine j_dload_n (p2 := 68) dN_root_67 rfl rfl ?_
          refine j_ldc2d (p2 := 71) dN_root_68 rfl cw_N_34 ?_
          refine j_dmul (p2 := 72) dN_root_71 rfl (by exact (nx (cmp.mp (by first | exact h63 | exact Classical.not_not.mp h63))).1.nn) ?_
          refine j_dstore_n (p2 := 73) (lv' := [(2, _), (4, _), (6, _)]) dN_root_72 rfl (Nat.le_of_ble_eq_true rfl) ⟨rfl, rfl, rfl, trivial⟩ ?_
          refine j_dload (p2 := 75) dN_root_73 rfl rfl ?_
          refine j_ldc2d (p2 := 78) dN_root_75 rfl cw_N_17 ?_
          refine j_dmul (p2 := 79) dN_root_78 rfl (by exact (nx (cmp.mp (by first | exact h63 | exact Classical.not_not.mp h63))).2.nn) ?_
          refine j_dstore (p2 := 81) (lv' := [(2, _), (4, _), (6, _)]) dN_root_79 rfl (Nat.le_of_ble_eq_true rfl) ⟨rfl, rfl, rfl, trivial⟩ ?_
          refine j_iinc (p2 := 84) (lv' := [(2, _), (4, _), (6, _)]) dN_root_81 rfl (Nat.le_of_ble_eq_true rfl) rfl ⟨rfl, rfl, rfl, trivial⟩ ?_
          refine j_goto (p2 := 54) dN_root_84 (by decide) ?_
          refine J.loc (lv' := [(2, _), (4, _), (6, _)]) ⟨rfl, rfl, rfl, trivial⟩ ?_
          exact ih2 (cmp.mp (by first | exact h63 | exact Classical.not_not.mp h63))
  have loop1 : ∀ (n i : Nat) (v b : UInt64) (e j : Int), i ≤ 40 → 41 ≤ i + n → dv v c e → dv b 1 (-j) → e = q + 2 * j → j = 16 * i → e + (L : Int) ≤ 0 → e ≤ 971 → J mN_root 16 [(2, vD v), (4, vD b), (6, vI i)] [] σ Q := by
    intro n
    induction n with
    | zero => intro i v b e j a1 a2; exact absurd a2 (by omega)
    | succ n ih =>
      intro i v b e j a1 a2 hv hb he e1 e2 e4
      have cmp := dv_ltp hv dv_m32 hc0
      rw [← hL] at cmp
      have nx : e + (L : Int) < -32 → dv (FP.dmul v 4751297606875873280) c (e + 32) ∧ dv (FP.dmul b 4535124824762089472) 1 (-(j + 16)) := fun g => by
        refine ⟨dv_mul hv dv_p32 hc (by omega) (by omega), ?_⟩
        have := dv_mul hb dv_m16 (by decide) (by omega) (by omega)
        rw [show -j + -16 = -(j + 16) by omega] at this
        exact this
      have ih2 : e + (L : Int) < -32 → J mN_root 16 [(2, vD (FP.dmul v 4751297606875873280)), (4, vD (FP.dmul b 4535124824762089472)), (6, vI (i + 1))] [] σ Q := fun g => by
        obtain ⟨n1, n2⟩ := nx g
        exact ih (i + 1) _ _ (e + 32) (j + 16) (by omega) (by omega) n1 n2 (by omega) (by omega) (by omega) (by omega)
      have done : ¬ e + (L : Int) < -32 → J mN_root 51 [(2, vD v), (4, vD b)] [] σ Q := fun g => by
        have := loop2 41 0 v b e j (by omega) (by omega) hv hb he (by omega) (by omega) (by omega) (by omega) (by omega)
        refine j_iconst (p2 := 52) dN_root_51 rfl ?_
        refine j_istore (p2 := 54) (lv' := [(2, _), (4, _), (6, _)]) dN_root_52 rfl (Nat.le_of_ble_eq_true rfl) ⟨rfl, rfl, rfl, trivial⟩ ?_
        refine J.loc (lv' := [(2, _), (4, _), (6, _)]) ⟨rfl, rfl, rfl, trivial⟩ ?_
        exact this
      refine j_iload (p2 := 18) dN_root_16 rfl rfl ?_
      refine j_bipush (v := 40) (p2 := 20) dN_root_18 rfl rfl ?_
      refine j_icmp_ge (p2 := 23) (tg := 51) dN_root_20 rfl (by decide) (by constructor <;> omega) (by constructor <;> omega) (fun h20 => ?_) (fun h20 => ?_)
      · refine J.loc (lv' := [(2, _), (4, _)]) ⟨rfl, rfl, trivial⟩ ?_
        first
          | (exfalso; omega)
          | exact done (fun z => h27 (cmp.mpr z))
          | exact done (by omega)
      · refine j_dload_n (p2 := 24) dN_root_23 rfl rfl ?_
        refine j_ldc2d (p2 := 27) dN_root_24 rfl cw_N_28 ?_
        refine j_dcmp_g_ge (p1 := 28) (p2 := 31) (tg := 51) dN_root_27 rfl dN_root_28 rfl (by decide) (fun h27 => ?_) (fun h27 => ?_)
        · refine J.loc (lv' := [(2, _), (4, _)]) ⟨rfl, rfl, trivial⟩ ?_
          first
            | (exfalso; omega)
            | exact done (fun z => h27 (cmp.mpr z))
            | exact done (by omega)
        · refine j_dload_n (p2 := 32) dN_root_31 rfl rfl ?_
          refine j_ldc2d (p2 := 35) dN_root_32 rfl cw_N_30 ?_
          refine j_dmul (p2 := 36) dN_root_35 rfl (by exact (nx (cmp.mp (by first | exact h27 | exact Classical.not_not.mp h27))).1.nn) ?_
          refine j_dstore_n (p2 := 37) (lv' := [(2, _), (4, _), (6, _)]) dN_root_36 rfl (Nat.le_of_ble_eq_true rfl) ⟨rfl, rfl, rfl, trivial⟩ ?_
          refine j_dload (p2 := 39) dN_root_37 rfl rfl ?_
          refine j_ldc2d (p2 := 42) dN_root_39 rfl cw_N_32 ?_
          refine j_dmul (p2 := 43) dN_root_42 rfl (by exact (nx (cmp.mp (by first | exact h27 | exact Classical.not_not.mp h27))).2.nn) ?_
          refine j_dstore (p2 := 45) (lv' := [(2, _), (4, _), (6, _)]) dN_root_43 rfl (Nat.le_of_ble_eq_true rfl) ⟨rfl, rfl, rfl, trivial⟩ ?_
          refine j_iinc (p2 := 48) (lv' := [(2, _), (4, _), (6, _)]) dN_root_45 rfl (Nat.le_of_ble_eq_true rfl) rfl ⟨rfl, rfl, rfl, trivial⟩ ?_
          refine j_goto (p2 := 16) dN_root_48 (by decide) ?_
          refine J.loc (lv' := [(2, _), (4, _), (6, _)]) ⟨rfl, rfl, rfl, trivial⟩ ?_
          exact ih2 (cmp.mp (by first | exact h27 | exact Classical.not_not.mp h27))
  refine j_dload_n (p2 := 1) dN_root_0 rfl rfl ?_
  refine j_dconst0 (p2 := 2) dN_root_1 rfl ?_
  refine j_dcmp_g_gt (p1 := 3) (p2 := 6) (tg := 8) dN_root_2 rfl dN_root_3 rfl (by decide) (fun h2 => ?_) (fun h2 => ?_)
  · refine j_dload_n (p2 := 9) dN_root_8 rfl rfl ?_
    refine j_dstore_n (p2 := 10) (lv' := [(2, _)]) dN_root_9 rfl (Nat.le_of_ble_eq_true rfl) ⟨rfl, trivial⟩ ?_
    refine j_dconst1 (p2 := 11) dN_root_10 rfl ?_
    refine j_dstore (p2 := 13) (lv' := [(2, _), (4, _)]) dN_root_11 rfl (Nat.le_of_ble_eq_true rfl) ⟨rfl, rfl, trivial⟩ ?_
    refine j_iconst (p2 := 14) dN_root_13 rfl ?_
    refine j_istore (p2 := 16) (lv' := [(2, _), (4, _), (6, _)]) dN_root_14 rfl (Nat.le_of_ble_eq_true rfl) ⟨rfl, rfl, rfl, trivial⟩ ?_
    refine J.loc (lv' := [(2, _), (4, _), (6, _)]) ⟨rfl, rfl, rfl, trivial⟩ ?_
    exact loop1 41 0 x FP.dconst1 q 0 (by omega) (by omega) hx dv_c1 (by omega) (by omega) (by omega) (by omega)
  · refine j_dconst0 (p2 := 7) dN_root_6 rfl ?_
    refine j_dreturn dN_root_7 rfl (by exfalso; rw [hgt] at h2; simp at h2)
/-- the root as the class takes it: 0.0 of what is not above 0 -/
def rootC (x : UInt64) : UInt64 := if FP.dcmp x FP.dconst0 = some .gt then rootP x else FP.dconst0
theorem cN_root {x : UInt64} (hx : x.toNat % 2 ^ 63 = 0 ∨ (0 < x.toNat ∧ x.toNat < 1024 * 2 ^ 52)) (hQ : Q (some (vD (rootC x))) σ) : Sp mN_root [vD x] σ Q := by
  unfold rootC at hQ
  rcases hx with hx | ⟨h0, h1⟩
  · have hz : FP.dcmp x FP.dconst0 = some .eq := FP.Core.zero_iff.mpr ((FP.Core.zero_bits2 x).mpr hx)
    rw [if_neg (by rw [hz]; exact fun q => by cases q)] at hQ
    refine j_dload_n (p2 := 1) dN_root_0 rfl rfl ?_
    refine j_dconst0 (p2 := 2) dN_root_1 rfl ?_
    refine j_dcmp_g_gt (p1 := 3) (p2 := 6) (tg := 8) dN_root_2 rfl dN_root_3 rfl (by decide) (fun h2 => ?_) (fun h2 => ?_)
    · exfalso
      rw [hz] at h2
      simp at h2
    · refine j_dconst0 (p2 := 7) dN_root_6 rfl ?_
      refine j_dreturn dN_root_7 rfl (by exact hQ)
  · have hd := dv_bits (z := x) rfl (by omega)
    have hgt : FP.dcmp x FP.dconst0 = some .gt := by
      refine (dv_gt hd dv_c0).mpr ?_
      rw [Nat.zero_mul, ← hd.un]
      rcases Nat.eq_zero_or_pos (FP.Core.unitsOf FP.Core.b64 x.toNat) with z | z
      · have := FP.Core.unitsOf_eq_zero.mp z
        omega
      · exact z
    rw [if_pos hgt] at hQ
    exact cN_rootp h0 h1 hQ
end RT5
