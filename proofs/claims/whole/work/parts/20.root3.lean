theorem tmod2 (p : Int) : (p.tmod 2 = 0 ↔ p % 2 = 0) ∧ -1 ≤ p.tmod 2 ∧ p.tmod 2 ≤ 1 := by
  obtain ⟨h1, h2⟩ := tmod_bounds (a := p) (M := 2) (by decide)
  have h3 := Int.tmod_add_mul_tdiv p 2
  generalize p.tmod 2 = t at *
  generalize p.tdiv 2 = d at *
  omega
section RT3
variable {σ : Hp} {Q : Option PV → Hp → Prop}
theorem cM_root64 {m : Nat} {ex : Int} (hm1 : 2 ^ 52 ≤ m) (hm2 : m < 2 ^ 53) (he : -60 ≤ ex ∧ ex ≤ 2046) (hQ : Q (some (vD (rootX m (ex - 1075)))) σ) : J mM_root 64 [(4, vI ex), (5, vL (lN m))] [] σ Q := by
  have eS : jlshl (lN m) 1 = lN (2 * m) := by
    rw [show (1 : Int) = ((1 : Nat) : Int) from rfl, jl_shl m (by decide), Nat.pow_one, Nat.mul_comm]
  have hrem := jirem_2 (p := ex - 1075) ⟨by omega, by omega⟩
  obtain ⟨t1, t2, t3⟩ := tmod2 (ex - 1075)
  have go : ∀ (M : Nat) (h : Int), M = (if (ex - 1075) % 2 = 0 then m else 2 * m) → 2 * h = (if (ex - 1075) % 2 = 0 then ex - 1075 else ex - 1075 - 1) → J mM_root 88 [(5, vL (lN M)), (7, vI (2 * h))] [] σ Q := by
    intro M h hM hh
    have hh2 : -700 ≤ h ∧ h ≤ 700 := by
      by_cases g : (ex - 1075) % 2 = 0
      · rw [if_pos g] at hh; omega
      · rw [if_neg g] at hh; omega
    have hM2 : M < 2 ^ 54 := by
      by_cases g : (ex - 1075) % 2 = 0
      · rw [if_pos g] at hM; omega
      · rw [if_neg g] at hM; omega
    unfold rootX at hQ
    rw [← hM, ← hh, Int.mul_ediv_cancel_left h (by decide)] at hQ
    refine j_lconst (v := 0) (p2 := 89) dM_root_88 rfl rfl ?_
    refine j_lstore (p2 := 91) (lv' := [(5, _), (7, _), (8, _)]) dM_root_89 rfl (Nat.le_of_ble_eq_true rfl) ⟨rfl, rfl, rfl, trivial⟩ ?_
    refine j_lconst (v := 0) (p2 := 92) dM_root_91 rfl rfl ?_
    refine j_lstore (p2 := 94) (lv' := [(5, _), (7, _), (8, _), (10, _)]) dM_root_92 rfl (Nat.le_of_ble_eq_true rfl) ⟨rfl, rfl, rfl, rfl, trivial⟩ ?_
    refine j_iconst (p2 := 95) dM_root_94 rfl ?_
    refine j_istore (p2 := 97) (lv' := [(5, _), (7, _), (8, _), (10, _), (12, _)]) dM_root_95 rfl (Nat.le_of_ble_eq_true rfl) ⟨rfl, rfl, rfl, rfl, rfl, trivial⟩ ?_
    refine J.loc (lv' := [(5, _), (7, _), (8, _), (10, _), (12, _)]) ⟨rfl, rfl, rfl, rfl, rfl, trivial⟩ ?_
    exact cM_root97 hM2 hh2 hQ 55 0 0 0 (by omega) (by omega) (by rw [rtP_0 hM2]) (by omega) (by decide)
  refine j_iload (p2 := 66) dM_root_64 rfl rfl ?_
  refine j_sipush (v := 1075) (p2 := 69) dM_root_66 rfl rfl ?_
  refine j_isub (p2 := 70) dM_root_69 rfl ?_
  refine j_istore (p2 := 72) (lv' := [(5, _), (7, _)]) dM_root_70 rfl (Nat.le_of_ble_eq_true rfl) ⟨rfl, rfl, trivial⟩ ?_
  refine j_iload (p2 := 74) dM_root_72 rfl rfl ?_
  refine j_iconst (p2 := 75) dM_root_74 rfl ?_
  refine j_irem (p2 := 76) dM_root_75 rfl ⟨by omega, by omega⟩ (by decide) ?_
  refine j_if_eq (p2 := 79) (tg := 88) dM_root_76 rfl (by decide) (by rw [hrem]; constructor <;> omega) (fun h76 => ?_) (fun h76 => ?_)
  · refine J.loc (lv' := [(5, _), (7, _)]) ⟨rfl, rfl, trivial⟩ ?_
    rw [hrem] at h76
    first
      | (have g : (ex - 1075) % 2 = 0 := t1.mp h76
         obtain ⟨h, hh⟩ : ∃ h, ex - 1075 = 2 * h := ⟨(ex - 1075) / 2, by omega⟩
         rw [hh]
         exact go m h (by rw [if_pos g]) (by rw [if_pos g]; exact hh.symm))
      | (have g : ¬ (ex - 1075) % 2 = 0 := fun z => h76 (t1.mpr z)
         obtain ⟨h, hh⟩ : ∃ h, ex - 1075 + -1 = 2 * h := ⟨(ex - 1075 - 1) / 2, by omega⟩
         rw [hh, eS]
         exact go (2 * m) h (by rw [if_neg g]) (by rw [if_neg g]; omega))
  · refine j_lload (p2 := 81) dM_root_79 rfl rfl ?_
    refine j_iconst (p2 := 82) dM_root_81 rfl ?_
    refine j_lshl (p2 := 83) dM_root_82 rfl ?_
    refine j_lstore (p2 := 85) (lv' := [(5, _), (7, _)]) dM_root_83 rfl (Nat.le_of_ble_eq_true rfl) ⟨rfl, rfl, trivial⟩ ?_
    refine j_iinc (p2 := 88) (lv' := [(5, _), (7, _)]) dM_root_85 rfl (Nat.le_of_ble_eq_true rfl) rfl ⟨rfl, rfl, trivial⟩ ?_
    refine J.loc (lv' := [(5, _), (7, _)]) ⟨rfl, rfl, trivial⟩ ?_
    rw [hrem] at h76
    first
      | (have g : (ex - 1075) % 2 = 0 := t1.mp h76
         obtain ⟨h, hh⟩ : ∃ h, ex - 1075 = 2 * h := ⟨(ex - 1075) / 2, by omega⟩
         rw [hh]
         exact go m h (by rw [if_pos g]) (by rw [if_pos g]; exact hh.symm))
      | (have g : ¬ (ex - 1075) % 2 = 0 := fun z => h76 (t1.mpr z)
         obtain ⟨h, hh⟩ : ∃ h, ex - 1075 + -1 = 2 * h := ⟨(ex - 1075 - 1) / 2, by omega⟩
         rw [hh, eS]
         exact go (2 * m) h (by rw [if_neg g]) (by rw [if_neg g]; omega))
theorem cM_rootp {x : UInt64} (h0 : 0 < x.toNat) (h1 : x.toNat < 2047 * 2 ^ 52) (hQ : Q (some (vD (rootP x))) σ) : Sp mM_root [vD x] σ Q := by
  obtain ⟨B, hB⟩ : ∃ B, B = x.toNat := ⟨_, rfl⟩
  rw [← hB] at h0 h1
  have hxl : x.toInt64 = lN B := by
    apply wb_inj
    apply BitVec.eq_of_toNat_eq
    rw [wb_tn (by omega), hB]; rfl
  have hnn : vf_n64 x := vn64.mpr (by rw [← hB]; omega)
  have hnz : ¬ FP.dcmp x FP.dconst0 = some .eq := fun h => by
    have := (FP.Core.zero_bits2 x).mp (FP.Core.zero_iff.mp h)
    rw [← hB] at this; omega
  have eE : jlshr (lN B) 52 = lN (B / 2 ^ 52) := jl_shr3 (k := 52) (by omega) (by decide)
  have eI : (lN (B / 2 ^ 52)).toInt32.toInt = ((B / 2 ^ 52 : Nat) : Int) := lN_i32 (by omega)
  have eM : lN B &&& 4503599627370495 = lN (B % 2 ^ 52) := g_mask (s := 52) (p := 2 ^ 52) rfl (by decide) (by omega)
  have ht : FP.Core.b64.tails = 2 ^ 52 := rfl
  have hx : FP.Core.b64.exps = 2048 := rfl
  have hE : FP.Core.fieldE FP.Core.b64 B = B / 2 ^ 52 := by
    unfold FP.Core.fieldE; rw [ht, hx]; omega
  have hT : FP.Core.fieldT FP.Core.b64 B = B % 2 ^ 52 := by
    unfold FP.Core.fieldT; rw [ht]
  have hS : FP.Core.fieldS FP.Core.b64 B = false := by
    unfold FP.Core.fieldS; rw [ht, hx]
    rw [beq_eq_false_iff_ne]; omega
  have hval : FP.Core.val64 x = if B / 2 ^ 52 = 0 then .fin false (B % 2 ^ 52) (-1074) else .fin false (2 ^ 52 + B % 2 ^ 52) (-1074 + (((B / 2 ^ 52 : Nat) : Int) - 1)) := by
    unfold FP.Core.val64 FP.Core.decode
    rw [← hB, hE, hT, hS, hx, ht, FP.Core.qmin_b64, if_neg (by omega)]
  have nrm : ¬ B / 2 ^ 52 = 0 → J mM_root 64 [(4, vI ((B / 2 ^ 52 : Nat) : Int)), (5, vL (lN (2 ^ 52 + B % 2 ^ 52)))] [] σ Q := by
    intro hz
    rw [if_neg hz] at hval
    have hl : (2 ^ 52 + B % 2 ^ 52).log2 = 52 := (Nat.log2_eq_iff (by omega)).mpr ⟨by omega, by omega⟩
    rw [rootP_X hval, hl] at hQ
    refine cM_root64 (by omega) (by omega) (by omega) ?_
    have e1 : (2 ^ 52 + B % 2 ^ 52) * 2 ^ (52 - ((52 : Nat) : Int)).toNat = 2 ^ 52 + B % 2 ^ 52 := by
      show _ * 2 ^ 0 = _
      rw [Nat.pow_zero, Nat.mul_one]
    have e2 : (-1074 : Int) + (((B / 2 ^ 52 : Nat) : Int) - 1) + ((52 : Nat) : Int) - 52 = ((B / 2 ^ 52 : Nat) : Int) - 1075 := by omega
    rw [e1, e2] at hQ
    exact hQ
  have sub : B / 2 ^ 52 = 0 → ∀ (n j : Nat), (B % 2 ^ 52).log2 + j ≤ 52 → 53 ≤ (B % 2 ^ 52).log2 + j + n → J mM_root 35 [(4, vI (1 - (j : Int))), (5, vL (lN (B % 2 ^ 52 * 2 ^ j)))] [] σ Q := by
    intro hz
    rw [if_pos hz] at hval
    rw [rootP_X hval] at hQ
    have hT0 : 0 < B % 2 ^ 52 := by omega
    obtain ⟨g1, g2⟩ := (Nat.log2_eq_iff (k := (B % 2 ^ 52).log2) (by omega)).mp rfl
    intro n
    induction n with
    | zero => intro j a1 a2; exact absurd a2 (by omega)
    | succ n ih =>
      intro j a1 a2
      obtain ⟨T, hTT⟩ : ∃ T, T = B % 2 ^ 52 := ⟨_, rfl⟩
      obtain ⟨l, hl⟩ : ∃ l, l = (B % 2 ^ 52).log2 := ⟨_, rfl⟩
      rw [← hTT] at g1 g2 hT0 hQ ih ⊢
      rw [← hTT] at hl
      rw [← hl] at g1 g2 hQ ih
      rw [← hTT, ← hl] at a1 a2
      have p1 : T * 2 ^ j < 2 ^ (l + 1) * 2 ^ j := Nat.mul_lt_mul_of_pos_right g2 (Nat.two_pow_pos _)
      have p2 : 2 ^ l * 2 ^ j ≤ T * 2 ^ j := Nat.mul_le_mul_right _ g1
      rw [← Nat.pow_add] at p1 p2
      have p3 : 2 ^ (l + 1 + j) ≤ 2 ^ 53 := Nat.pow_le_pow_right (by decide) (by omega)
      have hlt : lN (T * 2 ^ j) < 4503599627370496 ↔ T * 2 ^ j < 2 ^ 52 := lN_lt63 (b := 2 ^ 52) (by omega) (by decide)
      have eS : jlshl (lN (T * 2 ^ j)) 1 = lN (T * 2 ^ (j + 1)) := by
        rw [show (1 : Int) = ((1 : Nat) : Int) from rfl, jl_shl _ (by decide), Nat.pow_one, Nat.mul_assoc, ← Nat.pow_succ]
      refine j_lload (p2 := 37) dM_root_35 rfl rfl ?_
      refine j_ldc2 (p2 := 40) dM_root_37 rfl cw_M_256 ?_
      refine j_lcmp_ge (p1 := 41) (p2 := 44) (tg := 64) dM_root_40 rfl dM_root_41 rfl (by decide) (fun h40 => ?_) (fun h40 => ?_)
      · refine J.loc (lv' := [(4, _), (5, _)]) ⟨rfl, rfl, trivial⟩ ?_
        have g : ¬ T * 2 ^ j < 2 ^ 52 := fun z => h40 (hlt.mpr z)
        have hj : l + j = 52 := by
          rcases Nat.lt_or_ge (l + j) 52 with z | z
          · have : 2 ^ (l + 1 + j) ≤ 2 ^ 52 := Nat.pow_le_pow_right (by decide) (by omega)
            omega
          · omega
        refine cM_root64 (by omega) (by omega) (by omega) ?_
        have e1 : (52 - (l : Int)).toNat = j := by omega
        have e2 : (-1074 : Int) + (l : Int) - 52 = 1 - (j : Int) - 1075 := by omega
        rw [e1, e2] at hQ
        exact hQ
      · refine j_lload (p2 := 46) dM_root_44 rfl rfl ?_
        refine j_iconst (p2 := 47) dM_root_46 rfl ?_
        refine j_lshl (p2 := 48) dM_root_47 rfl ?_
        refine j_lstore (p2 := 50) (lv' := [(4, _), (5, _)]) dM_root_48 rfl (Nat.le_of_ble_eq_true rfl) ⟨rfl, rfl, trivial⟩ ?_
        refine j_iinc (p2 := 53) (lv' := [(4, _), (5, _)]) dM_root_50 rfl (Nat.le_of_ble_eq_true rfl) rfl ⟨rfl, rfl, trivial⟩ ?_
        refine j_goto (p2 := 35) dM_root_53 (by decide) ?_
        refine J.loc (lv' := [(4, _), (5, _)]) ⟨rfl, rfl, trivial⟩ ?_
        have g := hlt.mp h40
        have hj : l + j ≤ 51 := by
          rcases Nat.lt_or_ge 51 (l + j) with z | z
          · have : 2 ^ 52 ≤ 2 ^ (l + j) := Nat.pow_le_pow_right (by decide) z
            omega
          · exact z
        rw [eS]
        have := ih (j + 1) (by omega) (by omega)
        rw [show (1 : Int) - (((j + 1 : Nat)) : Int) = 1 - (j : Int) + -1 by omega] at this
        exact this
  have eOr : lN (B % 2 ^ 52) ||| 4503599627370496 = lN (2 ^ 52 + B % 2 ^ 52) := by
    have := g_or' (k := 52) (p := 2 ^ 52) (a := B % 2 ^ 52) (b := 1) rfl (Nat.mod_lt _ (by decide)) (by omega)
    rw [Nat.one_mul, Nat.add_comm] at this
    exact this
  have at27 : J mM_root 27 [(4, vI ((B / 2 ^ 52 : Nat) : Int)), (5, vL (lN (B % 2 ^ 52)))] [] σ Q := by
    refine j_iload (p2 := 29) dM_root_27 rfl rfl ?_
    refine j_if_ne (p2 := 32) (tg := 56) dM_root_29 rfl (by decide) (by constructor <;> omega) (fun h29 => ?_) (fun h29 => ?_)
    · refine j_lload (p2 := 58) dM_root_56 rfl rfl ?_
      refine j_ldc2 (p2 := 61) dM_root_58 rfl cw_M_256 ?_
      refine j_lor (p2 := 62) dM_root_61 rfl ?_
      refine j_lstore (p2 := 64) (lv' := [(4, _), (5, _)]) dM_root_62 rfl (Nat.le_of_ble_eq_true rfl) ⟨rfl, rfl, trivial⟩ ?_
      refine J.loc (lv' := [(4, _), (5, _)]) ⟨rfl, rfl, trivial⟩ ?_
      rw [eOr]; exact nrm (by omega)
    · refine j_iconst (p2 := 33) dM_root_32 rfl ?_
      refine j_istore (p2 := 35) (lv' := [(4, _), (5, _)]) dM_root_33 rfl (Nat.le_of_ble_eq_true rfl) ⟨rfl, rfl, trivial⟩ ?_
      refine J.loc (lv' := [(4, _), (5, _)]) ⟨rfl, rfl, trivial⟩ ?_
      have := sub (by omega) 53 0 ?_ (by omega)
      · rw [Nat.pow_zero, Nat.mul_one] at this; exact this
      · have := Nat.log2_lt (n := B % 2 ^ 52) (k := 52) (by omega)
        have := this.mpr (Nat.mod_lt _ (by decide))
        omega
  refine j_dload_n (p2 := 1) dM_root_0 rfl rfl ?_
  refine j_dconst0 (p2 := 2) dM_root_1 rfl ?_
  refine j_dcmp_l_ne (p1 := 3) (p2 := 6) (tg := 8) dM_root_2 rfl dM_root_3 rfl (by decide) (fun h2 => ?_) (fun h2 => ?_)
  · refine j_dload_n (p2 := 9) dM_root_8 rfl rfl ?_
    refine j_callS (m' := mJD_doubleToLongBits) (As := [_]) (p2 := 12) dM_root_9 rfl ml_M_250 ok_mJD_doubleToLongBits sm_mJD_doubleToLongBits rfl rfl (Nat.le_of_ble_eq_true rfl) (Nat.le_of_ble_eq_true rfl) ⟨(Nat.le_of_ble_eq_true rfl), (Nat.le_of_ble_eq_true rfl)⟩ ?_
    refine cJD_doubleToLongBits hnn ?_
    refine j_lstore_n (p2 := 13) (lv' := [(2, _)]) dM_root_12 rfl (Nat.le_of_ble_eq_true rfl) ⟨rfl, trivial⟩ ?_
    refine j_lload_n (p2 := 14) dM_root_13 rfl rfl ?_
    refine j_bipush (v := 52) (p2 := 16) dM_root_14 rfl rfl ?_
    refine j_lshr (p2 := 17) dM_root_16 rfl ?_
    refine j_l2i (p2 := 18) dM_root_17 rfl ?_
    refine j_istore (p2 := 20) (lv' := [(2, _), (4, _)]) dM_root_18 rfl (Nat.le_of_ble_eq_true rfl) ⟨rfl, rfl, trivial⟩ ?_
    refine j_lload_n (p2 := 21) dM_root_20 rfl rfl ?_
    refine j_ldc2 (p2 := 24) dM_root_21 rfl cw_M_254 ?_
    refine j_land (p2 := 25) dM_root_24 rfl ?_
    refine j_lstore (p2 := 27) (lv' := [(4, _), (5, _)]) dM_root_25 rfl (Nat.le_of_ble_eq_true rfl) ⟨rfl, rfl, trivial⟩ ?_
    refine J.loc (lv' := [(4, _), (5, _)]) ⟨rfl, rfl, trivial⟩ ?_
    rw [hxl, eE, eI, eM]; exact at27
  · refine j_dload_n (p2 := 7) dM_root_6 rfl rfl ?_
    refine j_dreturn dM_root_7 rfl (absurd h2 hnz)
theorem cM_root {x : UInt64} (hx : x.toNat % 2 ^ 63 = 0 ∨ (0 < x.toNat ∧ x.toNat < 2047 * 2 ^ 52)) (hQ : Q (some (vD (rootD x))) σ) : Sp mM_root [vD x] σ Q := by
  unfold rootD at hQ
  by_cases hz : FP.dcmp x FP.dconst0 = some .eq
  · rw [if_pos hz] at hQ
    refine j_dload_n (p2 := 1) dM_root_0 rfl rfl ?_
    refine j_dconst0 (p2 := 2) dM_root_1 rfl ?_
    refine j_dcmp_l_ne (p1 := 3) (p2 := 6) (tg := 8) dM_root_2 rfl dM_root_3 rfl (by decide) (fun h2 => ?_) (fun h2 => ?_)
    · exact absurd hz h2
    · refine j_dload_n (p2 := 7) dM_root_6 rfl rfl ?_
      refine j_dreturn dM_root_7 rfl hQ
  · rw [if_neg hz] at hQ
    rcases hx with hx | ⟨h0, h1⟩
    · exact absurd (FP.Core.zero_iff.mpr ((FP.Core.zero_bits2 x).mpr hx)) hz
    · exact cM_rootp h0 h1 hQ
end RT3
