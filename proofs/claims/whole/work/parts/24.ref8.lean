/-! ===== more sizes ===== -/
theorem d2f_15 {x : UInt64} (h : x.toNat % 2 ^ 63 ≤ 4609434218613702656) : (FP.d2f x).toNat % 2 ^ 31 ≤ 1069547520 := by
  have hm0 : mg x 1024 := by show x.toNat % 2 ^ 63 < 1024 * 2 ^ 52; omega
  have hfin := hm0.fin (by decide)
  rw [fq_jd2f hfin.notNaN]
  have hz := FP.Core.zmag_bits hfin.ne_nan
  obtain ⟨s, c, q, e⟩ := hfin
  have hfit : FP.Core.fits FP.Core.b64 (.fin s c q) := e ▸ FP.Core.val64_fits x
  have hq : (-1074 : Int) ≤ q := hfit.2.1
  have hv : FP.Core.decode FP.Core.b32 (FP.Core.d2f x).toNat = FP.Core.roundRatio FP.Core.b32 s c 1 q := by
    show FP.Core.val32 (FP.Core.d2f x) = _
    rw [FP.Core.val32_d2f, e]; rfl
  have hu : FP.Core.unitsOf FP.Core.b64 (x.toNat % 2 ^ 63) < FP.Core.unitsOf FP.Core.b64 (4609434218613702656 + 1) := FP.Core.unitsOf_lt (by omega)
  have hu2 : FP.Core.unitsOf FP.Core.b64 (4609434218613702656 + 1) = 3 * 2 ^ 1073 + 2 ^ 1022 := by decide +kernel
  have hdiv : FP.Core.unitsOf FP.Core.b64 (x.toNat % 2 ^ 63) ≤ 3 * 2 ^ 1073 := by
    rcases Nat.lt_or_eq_of_le h with g | g
    · have := FP.Core.unitsOf_lt (f := FP.Core.b64) g
      have e2 : FP.Core.unitsOf FP.Core.b64 4609434218613702656 = 3 * 2 ^ 1073 := by decide +kernel
      rw [e2] at this; exact Nat.le_of_lt this
    · rw [g]
      have e2 : FP.Core.unitsOf FP.Core.b64 4609434218613702656 = 3 * 2 ^ 1073 := by decide +kernel
      rw [e2]; exact Nat.le_refl _
  rw [← hz, e] at hdiv
  have hm := FP.Core.mag_le FP.Core.good_b32 (m := 1069547520) (e0 := -1074) hv (by decide) (by decide) hq (by
    have e2 : FP.Core.unitsOf FP.Core.b32 1069547520 * 2 ^ (FP.Core.b32.qmin - -1074).toNat * 1 = 3 * 2 ^ 1073 := by decide +kernel
    rw [e2]
    exact hdiv)
  rw [FP.Core.mag_toNat32] at hm
  exact hm
theorem mg_15 {x : UInt64} (h : x.toNat % 2 ^ 63 ≤ 4609434218613702656) : mg x 1024 := by show x.toNat % 2 ^ 63 < 1024 * 2 ^ 52; omega
theorem mf_15 {x : UInt32} (h : x.toNat % 2 ^ 31 ≤ 1069547520) : mf x 128 := by show x.toNat % 2 ^ 31 < 128 * 2 ^ 23; omega
/-- what a noise of seed s gives -/
def nz (s : Int) : UInt64 := FP.ddiv (FP.i2d (iw s)) 4746794007248502784
theorem nz_15 (s : Int) : (nz s).toNat % 2 ^ 63 ≤ 4609434218613702656 := by
  unfold nz
  obtain ⟨v, hv0⟩ : ∃ v, v = iw s := ⟨_, rfl⟩
  rw [← hv0]
  have hfin := FP.Core.i2d_fin v
  have hm := FP.Core.fromInt_mag (FP.Core.toNat_i2d v) (FP.Core.int32_abs v) (K := 1054) (by decide) (by decide)
  have hz := FP.Core.zmag_bits hfin.ne_nan
  obtain ⟨sg, c, q, e⟩ := hfin
  have hfit : FP.Core.fits FP.Core.b64 (.fin sg c q) := e ▸ FP.Core.val64_fits _
  have hq : (-1074 : Int) ≤ q := hfit.2.1
  have e2 : FP.Core.unitsOf FP.Core.b64 (1054 * 2 ^ 52) = 2 ^ 1105 := by decide +kernel
  have hdiv : FP.Core.unitsOf FP.Core.b64 ((FP.Core.i2d v).toNat % 2 ^ 63) ≤ 2 ^ 1105 := by
    rcases Nat.lt_or_eq_of_le hm with g | g
    · have := FP.Core.unitsOf_lt (f := FP.Core.b64) g
      rw [e2] at this; exact Nat.le_of_lt this
    · rw [g, e2]; exact Nat.le_refl _
  rw [← hz, e] at hdiv
  have hdiv : c * 2 ^ (q - -1074).toNat ≤ 2 ^ 1105 := hdiv
  have hc : FP.Core.val64 4746794007248502784 = .fin false (2 ^ 52) (-21) := by decide +kernel
  have hv : FP.Core.decode FP.Core.b64 (FP.Core.ddiv (FP.Core.i2d v) 4746794007248502784).toNat = FP.Core.roundRatio FP.Core.b64 (sg != false) c (2 ^ 52) (q - -21) := by
    show FP.Core.val64 (FP.Core.ddiv (FP.Core.i2d v) 4746794007248502784) = _
    rw [FP.Core.val64_ddiv, e, hc]
    show (if (2 ^ 52 : Nat) = 0 then (if c = 0 then FP.Core.Datum.nan else FP.Core.Datum.inf (sg != false)) else FP.Core.roundRatio FP.Core.b64 (sg != false) c (2 ^ 52) (q - -21)) = _
    rw [if_neg (by decide)]
  have hm2 := FP.Core.mag_le FP.Core.good_b64 (m := 1023 * 2 ^ 52) (e0 := -1074) hv (by decide) (by decide) (by omega) (by
    have e3 : FP.Core.unitsOf FP.Core.b64 (1023 * 2 ^ 52) * 2 ^ (FP.Core.b64.qmin - -1074).toNat * 2 ^ 52 = 2 ^ 1105 * 2 ^ 21 := by decide +kernel
    rw [e3]
    show c * 2 ^ (q - -21 - -1074).toNat ≤ _
    have e4 : (q - -21 - -1074).toNat = (q - -1074).toNat + 21 := by omega
    rw [e4, Nat.pow_add, ← Nat.mul_assoc]
    exact Nat.mul_le_mul_right _ hdiv)
  rw [FP.Core.mag_toNat64] at hm2
  show (FP.Core.ddiv (FP.Core.i2d v) 4746794007248502784).toNat % 2 ^ 63 ≤ _
  omega
theorem f2d_fin2 {x : UInt32} {K : Nat} (h : mf x K) (hK : K ≤ 255) : FP.Core.DFin (FP.f2d x) := by
  have hf := h.fin hK
  have hfd := FP.Core.f2d_fin hf
  rw [← fq_jf2d hf] at hfd
  exact hfd
theorem hp_ext {a b : Hp} (h1 : ∀ c, hI a c = hI b c) (h2 : ∀ c, hL a c = hL b c) (h3 : ∀ c, hF a c = hF b c) (h4 : ∀ c, hD a c = hD b c) : a = b := by
  have e1 : a.1 = b.1 := funext h1
  have e2 : a.2.1 = b.2.1 := funext h2
  have e3 : a.2.2.1 = b.2.2.1 := funext h3
  have e4 : a.2.2.2 = b.2.2.2 := funext h4
  obtain ⟨x1, x2, x3, x4⟩ := a
  obtain ⟨y1, y2, y3, y4⟩ := b
  subst e1
  subst e2
  subst e3
  subst e4
  rfl
section REF8
variable {σ : Hp} {Q : Option PV → Hp → Prop}
def krH1 (σ : Hp) (N : Nat) : Hp := wF (wD σ 105 (pw (hD σ 105) (hD σ 115) N)) 109 (pw (hF σ 109) (hF σ 116) N)
theorem krH1_0 : krH1 σ 0 = σ := by unfold krH1; rw [pw_0, pw_0, wD_id]; exact wF_id σ 109
theorem cM_keepRates1 {N : Nat} (hN : hI σ 69 0 = N ∧ N ≤ 20) (hQ : Q none (krH1 σ N)) : Sp mM_keepRates [vR 69, vI 1] σ Q := by
  obtain ⟨hN, hN2⟩ := hN
  have loop : ∀ (n i : Nat), i ≤ N → N + 1 ≤ i + n → J mM_keepRates 2 [(0, vR 69), (1, vI 1), (2, vI i)] [] (krH1 σ i) Q := by
    intro n
    induction n with
    | zero => intro i h1 h2; exact absurd h2 (by omega)
    | succ n ih =>
      intro i h1 h2
      have eN : hI (krH1 σ i) 69 0 = N := hN
      have ih2 : i < N → J mM_keepRates 2 [(0, vR 69), (1, vI 1), (2, vI (i + 1))] [] (krH1 σ (i + 1)) Q := fun h => ih (i + 1) (by omega) (by omega)
      have yes : krH1 σ (i + 1) = wF (wD (krH1 σ i) 105 (fup (hD (krH1 σ i) 105) i (hD σ 115 i))) 109 (fup (hF (krH1 σ i) 109) i (hF σ 116 i)) := by
        unfold krH1
        rw [wDF_s, ← pw_s, ← pw_s]
        rfl
      refine j_iload_n (p2 := 3) dM_keepRates_2 rfl rfl ?_
      refine j_aload_n (p2 := 4) dM_keepRates_3 rfl rfl ?_
      refine j_getIk (p2 := 7) dM_keepRates_4 rfl fa_M_158 ly_69 rfl (ki := 0) rfl ?_
      refine j_icmp_ge (p2 := 10) (tg := 104) dM_keepRates_7 rfl (by decide) (by constructor <;> omega) (by rw [eN]; constructor <;> omega) (fun h7 => ?_) (fun h7 => ?_)
      · refine j_return dM_keepRates_104 rfl (by rw [eN] at h7; have e : i = N := (by omega); subst e; exact hQ)
      · refine j_iload_n (p2 := 11) dM_keepRates_10 rfl rfl ?_
        refine j_iconst (p2 := 12) dM_keepRates_11 rfl ?_
        refine j_icmp_ne (p2 := 15) (tg := 42) dM_keepRates_12 rfl (by decide) (by constructor <;> omega) (by constructor <;> omega) (fun h12 => ?_) (fun h12 => ?_)
        · refine j_iload_n (p2 := 43) dM_keepRates_42 rfl rfl ?_
          refine j_iconst (p2 := 44) dM_keepRates_43 rfl ?_
          refine j_icmp_ne (p2 := 47) (tg := 74) dM_keepRates_44 rfl (by decide) (by constructor <;> omega) (by constructor <;> omega) (fun h44 => ?_) (fun h44 => ?_)
          · refine j_aload_n (p2 := 75) dM_keepRates_74 rfl rfl ?_
            refine j_getR (p2 := 78) dM_keepRates_75 rfl fa_M_128 ly_69 rfl ?_
            refine j_iload_n (p2 := 79) dM_keepRates_78 rfl rfl ?_
            refine j_aload_n (p2 := 80) dM_keepRates_79 rfl rfl ?_
            refine j_getR (p2 := 83) dM_keepRates_80 rfl fa_M_152 ly_69 rfl ?_
            refine j_iload_n (p2 := 84) dM_keepRates_83 rfl rfl ?_
            refine j_dald (p2 := 85) dM_keepRates_84 rfl ly_115 (by decide) (by omega) (by rw [eN] at h7; omega) ?_
            refine j_dastk (p2 := 86) dM_keepRates_85 rfl ly_107 (by decide) (by omega) (by rw [eN] at h7; omega) ?_
            refine j_aload_n (p2 := 87) dM_keepRates_86 rfl rfl ?_
            refine j_getR (p2 := 90) dM_keepRates_87 rfl fa_M_140 ly_69 rfl ?_
            refine j_iload_n (p2 := 91) dM_keepRates_90 rfl rfl ?_
            refine j_aload_n (p2 := 92) dM_keepRates_91 rfl rfl ?_
            refine j_getR (p2 := 95) dM_keepRates_92 rfl fa_M_155 ly_69 rfl ?_
            refine j_iload_n (p2 := 96) dM_keepRates_95 rfl rfl ?_
            refine j_fald (p2 := 97) dM_keepRates_96 rfl ly_116 (by decide) (by omega) (by rw [eN] at h7; omega) ?_
            refine j_fastk (p2 := 98) dM_keepRates_97 rfl ly_111 (by decide) (by omega) (by rw [eN] at h7; omega) ?_
            refine j_iinc (p2 := 101) (lv' := [(0, _), (1, _), (2, _)]) dM_keepRates_98 rfl (Nat.le_of_ble_eq_true rfl) rfl ⟨rfl, rfl, rfl, trivial⟩ ?_
            refine j_goto (p2 := 2) dM_keepRates_101 (by decide) ?_
            refine J.loc (lv' := [(0, _), (1, _), (2, _)]) ⟨rfl, rfl, rfl, trivial⟩ ?_
            rw [eN] at h7
            first
              | (exfalso; omega)
              | exact (ih2 (by omega)).hp yes
          · refine j_aload_n (p2 := 48) dM_keepRates_47 rfl rfl ?_
            refine j_getR (p2 := 51) dM_keepRates_48 rfl fa_M_125 ly_69 rfl ?_
            refine j_iload_n (p2 := 52) dM_keepRates_51 rfl rfl ?_
            refine j_aload_n (p2 := 53) dM_keepRates_52 rfl rfl ?_
            refine j_getR (p2 := 56) dM_keepRates_53 rfl fa_M_152 ly_69 rfl ?_
            refine j_iload_n (p2 := 57) dM_keepRates_56 rfl rfl ?_
            refine j_dald (p2 := 58) dM_keepRates_57 rfl ly_115 (by decide) (by omega) (by rw [eN] at h7; omega) ?_
            refine j_dastk (p2 := 59) dM_keepRates_58 rfl ly_106 (by decide) (by omega) (by rw [eN] at h7; omega) ?_
            refine j_aload_n (p2 := 60) dM_keepRates_59 rfl rfl ?_
            refine j_getR (p2 := 63) dM_keepRates_60 rfl fa_M_137 ly_69 rfl ?_
            refine j_iload_n (p2 := 64) dM_keepRates_63 rfl rfl ?_
            refine j_aload_n (p2 := 65) dM_keepRates_64 rfl rfl ?_
            refine j_getR (p2 := 68) dM_keepRates_65 rfl fa_M_155 ly_69 rfl ?_
            refine j_iload_n (p2 := 69) dM_keepRates_68 rfl rfl ?_
            refine j_fald (p2 := 70) dM_keepRates_69 rfl ly_116 (by decide) (by omega) (by rw [eN] at h7; omega) ?_
            refine j_fastk (p2 := 71) dM_keepRates_70 rfl ly_110 (by decide) (by omega) (by rw [eN] at h7; omega) ?_
            refine j_goto (p2 := 98) dM_keepRates_71 (by decide) ?_
            refine j_iinc (p2 := 101) (lv' := [(0, _), (1, _), (2, _)]) dM_keepRates_98 rfl (Nat.le_of_ble_eq_true rfl) rfl ⟨rfl, rfl, rfl, trivial⟩ ?_
            refine j_goto (p2 := 2) dM_keepRates_101 (by decide) ?_
            refine J.loc (lv' := [(0, _), (1, _), (2, _)]) ⟨rfl, rfl, rfl, trivial⟩ ?_
            rw [eN] at h7
            first
              | (exfalso; omega)
              | exact (ih2 (by omega)).hp yes
        · refine j_aload_n (p2 := 16) dM_keepRates_15 rfl rfl ?_
          refine j_getR (p2 := 19) dM_keepRates_16 rfl fa_M_122 ly_69 rfl ?_
          refine j_iload_n (p2 := 20) dM_keepRates_19 rfl rfl ?_
          refine j_aload_n (p2 := 21) dM_keepRates_20 rfl rfl ?_
          refine j_getR (p2 := 24) dM_keepRates_21 rfl fa_M_152 ly_69 rfl ?_
          refine j_iload_n (p2 := 25) dM_keepRates_24 rfl rfl ?_
          refine j_dald (p2 := 26) dM_keepRates_25 rfl ly_115 (by decide) (by omega) (by rw [eN] at h7; omega) ?_
          refine j_dastk (p2 := 27) dM_keepRates_26 rfl ly_105 (by decide) (by omega) (by rw [eN] at h7; omega) ?_
          refine j_aload_n (p2 := 28) dM_keepRates_27 rfl rfl ?_
          refine j_getR (p2 := 31) dM_keepRates_28 rfl fa_M_134 ly_69 rfl ?_
          refine j_iload_n (p2 := 32) dM_keepRates_31 rfl rfl ?_
          refine j_aload_n (p2 := 33) dM_keepRates_32 rfl rfl ?_
          refine j_getR (p2 := 36) dM_keepRates_33 rfl fa_M_155 ly_69 rfl ?_
          refine j_iload_n (p2 := 37) dM_keepRates_36 rfl rfl ?_
          refine j_fald (p2 := 38) dM_keepRates_37 rfl ly_116 (by decide) (by omega) (by rw [eN] at h7; omega) ?_
          refine j_fastk (p2 := 39) dM_keepRates_38 rfl ly_109 (by decide) (by omega) (by rw [eN] at h7; omega) ?_
          refine j_goto (p2 := 98) dM_keepRates_39 (by decide) ?_
          refine j_iinc (p2 := 101) (lv' := [(0, _), (1, _), (2, _)]) dM_keepRates_98 rfl (Nat.le_of_ble_eq_true rfl) rfl ⟨rfl, rfl, rfl, trivial⟩ ?_
          refine j_goto (p2 := 2) dM_keepRates_101 (by decide) ?_
          refine J.loc (lv' := [(0, _), (1, _), (2, _)]) ⟨rfl, rfl, rfl, trivial⟩ ?_
          rw [eN] at h7
          first
            | (exfalso; omega)
            | exact (ih2 (by omega)).hp yes
  refine j_iconst (p2 := 1) dM_keepRates_0 rfl ?_
  refine j_istore_n (p2 := 2) (lv' := [(0, _), (1, _), (2, _)]) dM_keepRates_1 rfl (Nat.le_of_ble_eq_true rfl) ⟨rfl, rfl, rfl, trivial⟩ ?_
  refine J.loc (lv' := [(0, _), (1, _), (2, _)]) ⟨rfl, rfl, rfl, trivial⟩ ?_
  exact (loop (N + 1) 0 (by omega) (by omega)).hp krH1_0
def krH2 (σ : Hp) (N : Nat) : Hp := wF (wD σ 106 (pw (hD σ 106) (hD σ 115) N)) 110 (pw (hF σ 110) (hF σ 116) N)
theorem krH2_0 : krH2 σ 0 = σ := by unfold krH2; rw [pw_0, pw_0, wD_id]; exact wF_id σ 110
theorem cM_keepRates2 {N : Nat} (hN : hI σ 69 0 = N ∧ N ≤ 20) (hQ : Q none (krH2 σ N)) : Sp mM_keepRates [vR 69, vI 2] σ Q := by
  obtain ⟨hN, hN2⟩ := hN
  have loop : ∀ (n i : Nat), i ≤ N → N + 1 ≤ i + n → J mM_keepRates 2 [(0, vR 69), (1, vI 2), (2, vI i)] [] (krH2 σ i) Q := by
    intro n
    induction n with
    | zero => intro i h1 h2; exact absurd h2 (by omega)
    | succ n ih =>
      intro i h1 h2
      have eN : hI (krH2 σ i) 69 0 = N := hN
      have ih2 : i < N → J mM_keepRates 2 [(0, vR 69), (1, vI 2), (2, vI (i + 1))] [] (krH2 σ (i + 1)) Q := fun h => ih (i + 1) (by omega) (by omega)
      have yes : krH2 σ (i + 1) = wF (wD (krH2 σ i) 106 (fup (hD (krH2 σ i) 106) i (hD σ 115 i))) 110 (fup (hF (krH2 σ i) 110) i (hF σ 116 i)) := by
        unfold krH2
        rw [wDF_s, ← pw_s, ← pw_s]
        rfl
      refine j_iload_n (p2 := 3) dM_keepRates_2 rfl rfl ?_
      refine j_aload_n (p2 := 4) dM_keepRates_3 rfl rfl ?_
      refine j_getIk (p2 := 7) dM_keepRates_4 rfl fa_M_158 ly_69 rfl (ki := 0) rfl ?_
      refine j_icmp_ge (p2 := 10) (tg := 104) dM_keepRates_7 rfl (by decide) (by constructor <;> omega) (by rw [eN]; constructor <;> omega) (fun h7 => ?_) (fun h7 => ?_)
      · refine j_return dM_keepRates_104 rfl (by rw [eN] at h7; have e : i = N := (by omega); subst e; exact hQ)
      · refine j_iload_n (p2 := 11) dM_keepRates_10 rfl rfl ?_
        refine j_iconst (p2 := 12) dM_keepRates_11 rfl ?_
        refine j_icmp_ne (p2 := 15) (tg := 42) dM_keepRates_12 rfl (by decide) (by constructor <;> omega) (by constructor <;> omega) (fun h12 => ?_) (fun h12 => ?_)
        · refine j_iload_n (p2 := 43) dM_keepRates_42 rfl rfl ?_
          refine j_iconst (p2 := 44) dM_keepRates_43 rfl ?_
          refine j_icmp_ne (p2 := 47) (tg := 74) dM_keepRates_44 rfl (by decide) (by constructor <;> omega) (by constructor <;> omega) (fun h44 => ?_) (fun h44 => ?_)
          · refine j_aload_n (p2 := 75) dM_keepRates_74 rfl rfl ?_
            refine j_getR (p2 := 78) dM_keepRates_75 rfl fa_M_128 ly_69 rfl ?_
            refine j_iload_n (p2 := 79) dM_keepRates_78 rfl rfl ?_
            refine j_aload_n (p2 := 80) dM_keepRates_79 rfl rfl ?_
            refine j_getR (p2 := 83) dM_keepRates_80 rfl fa_M_152 ly_69 rfl ?_
            refine j_iload_n (p2 := 84) dM_keepRates_83 rfl rfl ?_
            refine j_dald (p2 := 85) dM_keepRates_84 rfl ly_115 (by decide) (by omega) (by rw [eN] at h7; omega) ?_
            refine j_dastk (p2 := 86) dM_keepRates_85 rfl ly_107 (by decide) (by omega) (by rw [eN] at h7; omega) ?_
            refine j_aload_n (p2 := 87) dM_keepRates_86 rfl rfl ?_
            refine j_getR (p2 := 90) dM_keepRates_87 rfl fa_M_140 ly_69 rfl ?_
            refine j_iload_n (p2 := 91) dM_keepRates_90 rfl rfl ?_
            refine j_aload_n (p2 := 92) dM_keepRates_91 rfl rfl ?_
            refine j_getR (p2 := 95) dM_keepRates_92 rfl fa_M_155 ly_69 rfl ?_
            refine j_iload_n (p2 := 96) dM_keepRates_95 rfl rfl ?_
            refine j_fald (p2 := 97) dM_keepRates_96 rfl ly_116 (by decide) (by omega) (by rw [eN] at h7; omega) ?_
            refine j_fastk (p2 := 98) dM_keepRates_97 rfl ly_111 (by decide) (by omega) (by rw [eN] at h7; omega) ?_
            refine j_iinc (p2 := 101) (lv' := [(0, _), (1, _), (2, _)]) dM_keepRates_98 rfl (Nat.le_of_ble_eq_true rfl) rfl ⟨rfl, rfl, rfl, trivial⟩ ?_
            refine j_goto (p2 := 2) dM_keepRates_101 (by decide) ?_
            refine J.loc (lv' := [(0, _), (1, _), (2, _)]) ⟨rfl, rfl, rfl, trivial⟩ ?_
            rw [eN] at h7
            first
              | (exfalso; omega)
              | exact (ih2 (by omega)).hp yes
          · refine j_aload_n (p2 := 48) dM_keepRates_47 rfl rfl ?_
            refine j_getR (p2 := 51) dM_keepRates_48 rfl fa_M_125 ly_69 rfl ?_
            refine j_iload_n (p2 := 52) dM_keepRates_51 rfl rfl ?_
            refine j_aload_n (p2 := 53) dM_keepRates_52 rfl rfl ?_
            refine j_getR (p2 := 56) dM_keepRates_53 rfl fa_M_152 ly_69 rfl ?_
            refine j_iload_n (p2 := 57) dM_keepRates_56 rfl rfl ?_
            refine j_dald (p2 := 58) dM_keepRates_57 rfl ly_115 (by decide) (by omega) (by rw [eN] at h7; omega) ?_
            refine j_dastk (p2 := 59) dM_keepRates_58 rfl ly_106 (by decide) (by omega) (by rw [eN] at h7; omega) ?_
            refine j_aload_n (p2 := 60) dM_keepRates_59 rfl rfl ?_
            refine j_getR (p2 := 63) dM_keepRates_60 rfl fa_M_137 ly_69 rfl ?_
            refine j_iload_n (p2 := 64) dM_keepRates_63 rfl rfl ?_
            refine j_aload_n (p2 := 65) dM_keepRates_64 rfl rfl ?_
            refine j_getR (p2 := 68) dM_keepRates_65 rfl fa_M_155 ly_69 rfl ?_
            refine j_iload_n (p2 := 69) dM_keepRates_68 rfl rfl ?_
            refine j_fald (p2 := 70) dM_keepRates_69 rfl ly_116 (by decide) (by omega) (by rw [eN] at h7; omega) ?_
            refine j_fastk (p2 := 71) dM_keepRates_70 rfl ly_110 (by decide) (by omega) (by rw [eN] at h7; omega) ?_
            refine j_goto (p2 := 98) dM_keepRates_71 (by decide) ?_
            refine j_iinc (p2 := 101) (lv' := [(0, _), (1, _), (2, _)]) dM_keepRates_98 rfl (Nat.le_of_ble_eq_true rfl) rfl ⟨rfl, rfl, rfl, trivial⟩ ?_
            refine j_goto (p2 := 2) dM_keepRates_101 (by decide) ?_
            refine J.loc (lv' := [(0, _), (1, _), (2, _)]) ⟨rfl, rfl, rfl, trivial⟩ ?_
            rw [eN] at h7
            first
              | (exfalso; omega)
              | exact (ih2 (by omega)).hp yes
        · refine j_aload_n (p2 := 16) dM_keepRates_15 rfl rfl ?_
          refine j_getR (p2 := 19) dM_keepRates_16 rfl fa_M_122 ly_69 rfl ?_
          refine j_iload_n (p2 := 20) dM_keepRates_19 rfl rfl ?_
          refine j_aload_n (p2 := 21) dM_keepRates_20 rfl rfl ?_
          refine j_getR (p2 := 24) dM_keepRates_21 rfl fa_M_152 ly_69 rfl ?_
          refine j_iload_n (p2 := 25) dM_keepRates_24 rfl rfl ?_
          refine j_dald (p2 := 26) dM_keepRates_25 rfl ly_115 (by decide) (by omega) (by rw [eN] at h7; omega) ?_
          refine j_dastk (p2 := 27) dM_keepRates_26 rfl ly_105 (by decide) (by omega) (by rw [eN] at h7; omega) ?_
          refine j_aload_n (p2 := 28) dM_keepRates_27 rfl rfl ?_
          refine j_getR (p2 := 31) dM_keepRates_28 rfl fa_M_134 ly_69 rfl ?_
          refine j_iload_n (p2 := 32) dM_keepRates_31 rfl rfl ?_
          refine j_aload_n (p2 := 33) dM_keepRates_32 rfl rfl ?_
          refine j_getR (p2 := 36) dM_keepRates_33 rfl fa_M_155 ly_69 rfl ?_
          refine j_iload_n (p2 := 37) dM_keepRates_36 rfl rfl ?_
          refine j_fald (p2 := 38) dM_keepRates_37 rfl ly_116 (by decide) (by omega) (by rw [eN] at h7; omega) ?_
          refine j_fastk (p2 := 39) dM_keepRates_38 rfl ly_109 (by decide) (by omega) (by rw [eN] at h7; omega) ?_
          refine j_goto (p2 := 98) dM_keepRates_39 (by decide) ?_
          refine j_iinc (p2 := 101) (lv' := [(0, _), (1, _), (2, _)]) dM_keepRates_98 rfl (Nat.le_of_ble_eq_true rfl) rfl ⟨rfl, rfl, rfl, trivial⟩ ?_
          refine j_goto (p2 := 2) dM_keepRates_101 (by decide) ?_
          refine J.loc (lv' := [(0, _), (1, _), (2, _)]) ⟨rfl, rfl, rfl, trivial⟩ ?_
          rw [eN] at h7
          first
            | (exfalso; omega)
            | exact (ih2 (by omega)).hp yes
  refine j_iconst (p2 := 1) dM_keepRates_0 rfl ?_
  refine j_istore_n (p2 := 2) (lv' := [(0, _), (1, _), (2, _)]) dM_keepRates_1 rfl (Nat.le_of_ble_eq_true rfl) ⟨rfl, rfl, rfl, trivial⟩ ?_
  refine J.loc (lv' := [(0, _), (1, _), (2, _)]) ⟨rfl, rfl, rfl, trivial⟩ ?_
  exact (loop (N + 1) 0 (by omega) (by omega)).hp krH2_0
def krH3 (σ : Hp) (N : Nat) : Hp := wF (wD σ 107 (pw (hD σ 107) (hD σ 115) N)) 111 (pw (hF σ 111) (hF σ 116) N)
theorem krH3_0 : krH3 σ 0 = σ := by unfold krH3; rw [pw_0, pw_0, wD_id]; exact wF_id σ 111
theorem cM_keepRates3 {N : Nat} (hN : hI σ 69 0 = N ∧ N ≤ 20) (hQ : Q none (krH3 σ N)) : Sp mM_keepRates [vR 69, vI 3] σ Q := by
  obtain ⟨hN, hN2⟩ := hN
  have loop : ∀ (n i : Nat), i ≤ N → N + 1 ≤ i + n → J mM_keepRates 2 [(0, vR 69), (1, vI 3), (2, vI i)] [] (krH3 σ i) Q := by
    intro n
    induction n with
    | zero => intro i h1 h2; exact absurd h2 (by omega)
    | succ n ih =>
      intro i h1 h2
      have eN : hI (krH3 σ i) 69 0 = N := hN
      have ih2 : i < N → J mM_keepRates 2 [(0, vR 69), (1, vI 3), (2, vI (i + 1))] [] (krH3 σ (i + 1)) Q := fun h => ih (i + 1) (by omega) (by omega)
      have yes : krH3 σ (i + 1) = wF (wD (krH3 σ i) 107 (fup (hD (krH3 σ i) 107) i (hD σ 115 i))) 111 (fup (hF (krH3 σ i) 111) i (hF σ 116 i)) := by
        unfold krH3
        rw [wDF_s, ← pw_s, ← pw_s]
        rfl
      refine j_iload_n (p2 := 3) dM_keepRates_2 rfl rfl ?_
      refine j_aload_n (p2 := 4) dM_keepRates_3 rfl rfl ?_
      refine j_getIk (p2 := 7) dM_keepRates_4 rfl fa_M_158 ly_69 rfl (ki := 0) rfl ?_
      refine j_icmp_ge (p2 := 10) (tg := 104) dM_keepRates_7 rfl (by decide) (by constructor <;> omega) (by rw [eN]; constructor <;> omega) (fun h7 => ?_) (fun h7 => ?_)
      · refine j_return dM_keepRates_104 rfl (by rw [eN] at h7; have e : i = N := (by omega); subst e; exact hQ)
      · refine j_iload_n (p2 := 11) dM_keepRates_10 rfl rfl ?_
        refine j_iconst (p2 := 12) dM_keepRates_11 rfl ?_
        refine j_icmp_ne (p2 := 15) (tg := 42) dM_keepRates_12 rfl (by decide) (by constructor <;> omega) (by constructor <;> omega) (fun h12 => ?_) (fun h12 => ?_)
        · refine j_iload_n (p2 := 43) dM_keepRates_42 rfl rfl ?_
          refine j_iconst (p2 := 44) dM_keepRates_43 rfl ?_
          refine j_icmp_ne (p2 := 47) (tg := 74) dM_keepRates_44 rfl (by decide) (by constructor <;> omega) (by constructor <;> omega) (fun h44 => ?_) (fun h44 => ?_)
          · refine j_aload_n (p2 := 75) dM_keepRates_74 rfl rfl ?_
            refine j_getR (p2 := 78) dM_keepRates_75 rfl fa_M_128 ly_69 rfl ?_
            refine j_iload_n (p2 := 79) dM_keepRates_78 rfl rfl ?_
            refine j_aload_n (p2 := 80) dM_keepRates_79 rfl rfl ?_
            refine j_getR (p2 := 83) dM_keepRates_80 rfl fa_M_152 ly_69 rfl ?_
            refine j_iload_n (p2 := 84) dM_keepRates_83 rfl rfl ?_
            refine j_dald (p2 := 85) dM_keepRates_84 rfl ly_115 (by decide) (by omega) (by rw [eN] at h7; omega) ?_
            refine j_dastk (p2 := 86) dM_keepRates_85 rfl ly_107 (by decide) (by omega) (by rw [eN] at h7; omega) ?_
            refine j_aload_n (p2 := 87) dM_keepRates_86 rfl rfl ?_
            refine j_getR (p2 := 90) dM_keepRates_87 rfl fa_M_140 ly_69 rfl ?_
            refine j_iload_n (p2 := 91) dM_keepRates_90 rfl rfl ?_
            refine j_aload_n (p2 := 92) dM_keepRates_91 rfl rfl ?_
            refine j_getR (p2 := 95) dM_keepRates_92 rfl fa_M_155 ly_69 rfl ?_
            refine j_iload_n (p2 := 96) dM_keepRates_95 rfl rfl ?_
            refine j_fald (p2 := 97) dM_keepRates_96 rfl ly_116 (by decide) (by omega) (by rw [eN] at h7; omega) ?_
            refine j_fastk (p2 := 98) dM_keepRates_97 rfl ly_111 (by decide) (by omega) (by rw [eN] at h7; omega) ?_
            refine j_iinc (p2 := 101) (lv' := [(0, _), (1, _), (2, _)]) dM_keepRates_98 rfl (Nat.le_of_ble_eq_true rfl) rfl ⟨rfl, rfl, rfl, trivial⟩ ?_
            refine j_goto (p2 := 2) dM_keepRates_101 (by decide) ?_
            refine J.loc (lv' := [(0, _), (1, _), (2, _)]) ⟨rfl, rfl, rfl, trivial⟩ ?_
            rw [eN] at h7
            first
              | (exfalso; omega)
              | exact (ih2 (by omega)).hp yes
          · refine j_aload_n (p2 := 48) dM_keepRates_47 rfl rfl ?_
            refine j_getR (p2 := 51) dM_keepRates_48 rfl fa_M_125 ly_69 rfl ?_
            refine j_iload_n (p2 := 52) dM_keepRates_51 rfl rfl ?_
            refine j_aload_n (p2 := 53) dM_keepRates_52 rfl rfl ?_
            refine j_getR (p2 := 56) dM_keepRates_53 rfl fa_M_152 ly_69 rfl ?_
            refine j_iload_n (p2 := 57) dM_keepRates_56 rfl rfl ?_
            refine j_dald (p2 := 58) dM_keepRates_57 rfl ly_115 (by decide) (by omega) (by rw [eN] at h7; omega) ?_
            refine j_dastk (p2 := 59) dM_keepRates_58 rfl ly_106 (by decide) (by omega) (by rw [eN] at h7; omega) ?_
            refine j_aload_n (p2 := 60) dM_keepRates_59 rfl rfl ?_
            refine j_getR (p2 := 63) dM_keepRates_60 rfl fa_M_137 ly_69 rfl ?_
            refine j_iload_n (p2 := 64) dM_keepRates_63 rfl rfl ?_
            refine j_aload_n (p2 := 65) dM_keepRates_64 rfl rfl ?_
            refine j_getR (p2 := 68) dM_keepRates_65 rfl fa_M_155 ly_69 rfl ?_
            refine j_iload_n (p2 := 69) dM_keepRates_68 rfl rfl ?_
            refine j_fald (p2 := 70) dM_keepRates_69 rfl ly_116 (by decide) (by omega) (by rw [eN] at h7; omega) ?_
            refine j_fastk (p2 := 71) dM_keepRates_70 rfl ly_110 (by decide) (by omega) (by rw [eN] at h7; omega) ?_
            refine j_goto (p2 := 98) dM_keepRates_71 (by decide) ?_
            refine j_iinc (p2 := 101) (lv' := [(0, _), (1, _), (2, _)]) dM_keepRates_98 rfl (Nat.le_of_ble_eq_true rfl) rfl ⟨rfl, rfl, rfl, trivial⟩ ?_
            refine j_goto (p2 := 2) dM_keepRates_101 (by decide) ?_
            refine J.loc (lv' := [(0, _), (1, _), (2, _)]) ⟨rfl, rfl, rfl, trivial⟩ ?_
            rw [eN] at h7
            first
              | (exfalso; omega)
              | exact (ih2 (by omega)).hp yes
        · refine j_aload_n (p2 := 16) dM_keepRates_15 rfl rfl ?_
          refine j_getR (p2 := 19) dM_keepRates_16 rfl fa_M_122 ly_69 rfl ?_
          refine j_iload_n (p2 := 20) dM_keepRates_19 rfl rfl ?_
          refine j_aload_n (p2 := 21) dM_keepRates_20 rfl rfl ?_
          refine j_getR (p2 := 24) dM_keepRates_21 rfl fa_M_152 ly_69 rfl ?_
          refine j_iload_n (p2 := 25) dM_keepRates_24 rfl rfl ?_
          refine j_dald (p2 := 26) dM_keepRates_25 rfl ly_115 (by decide) (by omega) (by rw [eN] at h7; omega) ?_
          refine j_dastk (p2 := 27) dM_keepRates_26 rfl ly_105 (by decide) (by omega) (by rw [eN] at h7; omega) ?_
          refine j_aload_n (p2 := 28) dM_keepRates_27 rfl rfl ?_
          refine j_getR (p2 := 31) dM_keepRates_28 rfl fa_M_134 ly_69 rfl ?_
          refine j_iload_n (p2 := 32) dM_keepRates_31 rfl rfl ?_
          refine j_aload_n (p2 := 33) dM_keepRates_32 rfl rfl ?_
          refine j_getR (p2 := 36) dM_keepRates_33 rfl fa_M_155 ly_69 rfl ?_
          refine j_iload_n (p2 := 37) dM_keepRates_36 rfl rfl ?_
          refine j_fald (p2 := 38) dM_keepRates_37 rfl ly_116 (by decide) (by omega) (by rw [eN] at h7; omega) ?_
          refine j_fastk (p2 := 39) dM_keepRates_38 rfl ly_109 (by decide) (by omega) (by rw [eN] at h7; omega) ?_
          refine j_goto (p2 := 98) dM_keepRates_39 (by decide) ?_
          refine j_iinc (p2 := 101) (lv' := [(0, _), (1, _), (2, _)]) dM_keepRates_98 rfl (Nat.le_of_ble_eq_true rfl) rfl ⟨rfl, rfl, rfl, trivial⟩ ?_
          refine j_goto (p2 := 2) dM_keepRates_101 (by decide) ?_
          refine J.loc (lv' := [(0, _), (1, _), (2, _)]) ⟨rfl, rfl, rfl, trivial⟩ ?_
          rw [eN] at h7
          first
            | (exfalso; omega)
            | exact (ih2 (by omega)).hp yes
  refine j_iconst (p2 := 1) dM_keepRates_0 rfl ?_
  refine j_istore_n (p2 := 2) (lv' := [(0, _), (1, _), (2, _)]) dM_keepRates_1 rfl (Nat.le_of_ble_eq_true rfl) ⟨rfl, rfl, rfl, trivial⟩ ?_
  refine J.loc (lv' := [(0, _), (1, _), (2, _)]) ⟨rfl, rfl, rfl, trivial⟩ ?_
  exact (loop (N + 1) 0 (by omega) (by omega)).hp krH3_0
/-- how far apart, at most -/
def gap (r : UInt64) (s : UInt32) : UInt64 := if FP.dcmp (FP.dsub r (FP.f2d s)) FP.dconst0 = some .lt then FP.dneg (FP.dsub r (FP.f2d s)) else FP.dsub r (FP.f2d s)
def gdf (r : UInt64) (s : UInt32) (a : UInt64) : UInt64 := if FP.dcmp (gap r s) a = some .gt then gap r s else a
theorem cM_differ {m : Int} (hm : 0 ≤ m ∧ m < 20) (h1 : mg (hD σ 82 m) 1024) (h2 : mf (hF σ 83 m) 128) (hQ : Q none (wD σ 88 (fup (hD σ 88) m (gdf (hD σ 82 m) (hF σ 83 m) (hD σ 88 m))))) : Sp mM_differ [vR 69, vI m] σ Q := by
  have o1 : vf_n64 (FP.f2d (hF σ 83 m)) := f2d_nn (h2.nn (by decide))
  have o2 : vf_n64 (FP.dsub (hD σ 82 m) (FP.f2d (hF σ 83 m))) := vn64_of (FP.Core.dsub_out (h1.fin (by decide)).notNaN (f2d_fin2 h2 (by decide)))
  have at28 : J mM_differ 28 [(0, vR 69), (1, vI m), (2, vD (gap (hD σ 82 m) (hF σ 83 m)))] [] σ Q := by
    unfold gdf at hQ
    refine j_aload_n (p2 := 29) dM_differ_28 rfl rfl ?_
    refine j_getR (p2 := 32) dM_differ_29 rfl fa_M_71 ly_69 rfl ?_
    refine j_iload_n (p2 := 33) dM_differ_32 rfl rfl ?_
    refine j_dload_n (p2 := 34) dM_differ_33 rfl rfl ?_
    refine j_aload_n (p2 := 35) dM_differ_34 rfl rfl ?_
    refine j_getR (p2 := 38) dM_differ_35 rfl fa_M_71 ly_69 rfl ?_
    refine j_iload_n (p2 := 39) dM_differ_38 rfl rfl ?_
    refine j_dald (p2 := 40) dM_differ_39 rfl ly_88 (by decide) (by omega) (by omega) ?_
    refine j_dcmp_l_le (p1 := 41) (p2 := 44) (tg := 48) dM_differ_40 rfl dM_differ_41 rfl (by decide) (fun h40 => ?_) (fun h40 => ?_)
    · refine j_aload_n (p2 := 49) dM_differ_48 rfl rfl ?_
      refine j_getR (p2 := 52) dM_differ_49 rfl fa_M_71 ly_69 rfl ?_
      refine j_iload_n (p2 := 53) dM_differ_52 rfl rfl ?_
      refine j_dald (p2 := 54) dM_differ_53 rfl ly_88 (by decide) (by omega) (by omega) ?_
      refine j_dastk (p2 := 55) dM_differ_54 rfl ly_88 (by decide) (by omega) (by omega) ?_
      refine j_return dM_differ_55 rfl (by first | (rw [if_pos h40] at hQ; exact hQ) | (rw [if_neg h40] at hQ; exact hQ))
    · refine j_dload_n (p2 := 45) dM_differ_44 rfl rfl ?_
      refine j_goto (p2 := 54) dM_differ_45 (by decide) ?_
      refine j_dastk (p2 := 55) dM_differ_54 rfl ly_88 (by decide) (by omega) (by omega) ?_
      refine j_return dM_differ_55 rfl (by first | (rw [if_pos h40] at hQ; exact hQ) | (rw [if_neg h40] at hQ; exact hQ))
  unfold gap at at28
  refine j_aload_n (p2 := 1) dM_differ_0 rfl rfl ?_
  refine j_getR (p2 := 4) dM_differ_1 rfl fa_M_53 ly_69 rfl ?_
  refine j_iload_n (p2 := 5) dM_differ_4 rfl rfl ?_
  refine j_dald (p2 := 6) dM_differ_5 rfl ly_82 (by decide) (by omega) (by omega) ?_
  refine j_aload_n (p2 := 7) dM_differ_6 rfl rfl ?_
  refine j_getR (p2 := 10) dM_differ_7 rfl fa_M_56 ly_69 rfl ?_
  refine j_iload_n (p2 := 11) dM_differ_10 rfl rfl ?_
  refine j_fald (p2 := 12) dM_differ_11 rfl ly_83 (by decide) (by omega) (by omega) ?_
  refine j_f2d (p2 := 13) dM_differ_12 rfl (by assumption) ?_
  refine j_dsub (p2 := 14) dM_differ_13 rfl (by assumption) ?_
  refine j_dstore_n (p2 := 15) (lv' := [(0, _), (1, _), (2, _)]) dM_differ_14 rfl (Nat.le_of_ble_eq_true rfl) ⟨rfl, rfl, rfl, trivial⟩ ?_
  refine j_dload_n (p2 := 16) dM_differ_15 rfl rfl ?_
  refine j_dconst0 (p2 := 17) dM_differ_16 rfl ?_
  refine j_dcmp_g_ge (p1 := 18) (p2 := 21) (tg := 26) dM_differ_17 rfl dM_differ_18 rfl (by decide) (fun h17 => ?_) (fun h17 => ?_)
  · refine j_dload_n (p2 := 27) dM_differ_26 rfl rfl ?_
    refine j_dstore_n (p2 := 28) (lv' := [(0, _), (1, _), (2, _)]) dM_differ_27 rfl (Nat.le_of_ble_eq_true rfl) ⟨rfl, rfl, rfl, trivial⟩ ?_
    refine J.loc (lv' := [(0, _), (1, _), (2, _)]) ⟨rfl, rfl, rfl, trivial⟩ ?_
    first
      | (rw [if_pos h17] at at28; exact at28)
      | (rw [if_neg h17] at at28; exact at28)
  · refine j_dload_n (p2 := 22) dM_differ_21 rfl rfl ?_
    refine j_dneg (p2 := 23) dM_differ_22 rfl ?_
    refine j_goto (p2 := 27) dM_differ_23 (by decide) ?_
    refine j_dstore_n (p2 := 28) (lv' := [(0, _), (1, _), (2, _)]) dM_differ_27 rfl (Nat.le_of_ble_eq_true rfl) ⟨rfl, rfl, rfl, trivial⟩ ?_
    refine J.loc (lv' := [(0, _), (1, _), (2, _)]) ⟨rfl, rfl, rfl, trivial⟩ ?_
    first
      | (rw [if_pos h17] at at28; exact at28)
      | (rw [if_neg h17] at at28; exact at28)
end REF8
