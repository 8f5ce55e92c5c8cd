/-! ===== the class's twins: reading ===== -/
theorem rootC_0 : rootC FP.dconst0 = FP.dconst0 := by decide +kernel
theorem rnd0 (fl : Bool) : rndC fl FP.dconst0 = FP.dconst0 := by cases fl <;> decide +kernel
theorem rootC_z {x : UInt64} (h : FP.dcmp x FP.dconst0 = some .eq) : rootC x = FP.dconst0 := by
  unfold rootC; rw [if_neg (by rw [h]; exact fun q => by cases q)]
theorem rootC_p {x : UInt64} (h : vf_n64 x) (h1 : ¬ FP.dcmp x FP.dconst0 = some .lt) (h2 : ¬ FP.dcmp x FP.dconst0 = some .eq) : rootC x = rootD x := by
  unfold rootC rootD
  rw [if_neg h2]
  cases hc : FP.dcmp x FP.dconst0 with
  | none =>
    exfalso
    rcases (FP.Core.dcmp_none x FP.dconst0).mp hc with z | z
    · exact (FP.Core.ne_nan x).mpr (vn64.mp h) z
    · exact absurd z (by decide +kernel)
  | some o =>
    cases o with
    | lt => exact absurd hc h1
    | eq => exact absurd hc h2
    | gt => rw [if_pos rfl]
theorem nn_d0 : vf_n64 FP.dconst0 := by unfold vf_n64; decide
theorem key_bd {s : UInt64} {c : Int} (h1 : -c ≤ FP.Core.dkey s) (h2 : FP.Core.dkey s ≤ c) : ((s.toNat % 2 ^ 63 : Nat) : Int) ≤ c := by
  have hlt : s.toNat < 2 ^ 64 := s.toNat_lt
  unfold FP.Core.dkey at h1 h2
  by_cases g : 2 ^ 63 ≤ s.toNat
  · rw [if_pos g] at h1 h2; omega
  · rw [if_neg g] at h1 h2; omega
theorem f2d_mg {a : UInt32} (h : mf a 128) : mg (FP.f2d a) 1024 := by
  have nn := h.nn (by decide)
  have hlt : a.toNat < 2 ^ 32 := a.toNat_lt
  have k1 := (FP.Core.ne_nan32 a).mpr (vn32.mp nn)
  have k2 := (FP.Core.ne_nan (FP.f2d a)).mpr (vn64.mp (f2d_nn nn))
  have m1 : mf 1073741824 129 := by unfold mf; decide
  have m2 : mf 3221225472 129 := by unfold mf; decide
  have c1 := hF_cmp nn (m1.fin (by decide))
  have c2 := hF_cmp nn (m2.fin (by decide))
  have e1 : FP.f2d 1073741824 = 4611686018427387904 := by decide +kernel
  have e2 : FP.f2d 3221225472 = 13835058055282163712 := by decide +kernel
  rw [e1] at c1
  rw [e2] at c2
  unfold mf at h
  have g1 : FP.Core.fcmp a 1073741824 = some .lt := by
    rw [FP.Core.fcmp_lt_key k1 (by decide +kernel)]
    have e : FP.Core.fkey 1073741824 = 1073741824 := by decide +kernel
    rw [e]
    unfold FP.Core.fkey
    split <;> omega
  have g2 : FP.Core.fcmp a 3221225472 = some .gt := by
    rw [FP.Core.fcmp_gt_key k1 (by decide +kernel)]
    have e : FP.Core.fkey 3221225472 = -1073741824 := by decide +kernel
    rw [e]
    unfold FP.Core.fkey
    split <;> omega
  have d1 : FP.Core.dcmp (FP.f2d a) 4611686018427387904 = some .lt := c1.trans g1
  have d2 : FP.Core.dcmp (FP.f2d a) 13835058055282163712 = some .gt := c2.trans g2
  rw [FP.Core.dcmp_lt_key k2 (by decide +kernel)] at d1
  rw [FP.Core.dcmp_gt_key k2 (by decide +kernel)] at d2
  have x1 : FP.Core.dkey 4611686018427387904 = 4611686018427387904 := by decide +kernel
  have x2 : FP.Core.dkey 13835058055282163712 = -4611686018427387904 := by decide +kernel
  rw [x1] at d1
  rw [x2] at d2
  have b := key_bd (s := FP.f2d a) (c := 4611686018427387903) (by omega) (by omega)
  unfold mg
  omega
theorem rt_2 {x : UInt64} (hm : mg x 1024) (h : x.toNat % 2 ^ 63 = 0 ∨ (0 < x.toNat ∧ x.toNat < 2047 * 2 ^ 52)) : x.toNat % 2 ^ 63 = 0 ∨ (0 < x.toNat ∧ x.toNat < 1024 * 2 ^ 52) := by
  have hm : x.toNat % 2 ^ 63 < 1024 * 2 ^ 52 := hm
  rcases h with h | ⟨h1, h2⟩
  · exact Or.inl h
  · exact Or.inr ⟨h1, by omega⟩
theorem rtD_ok {a : UInt64} (ha : BdD a) (h : ¬ Acm arD a (Ac arD 0) = some .lt) : EqvD (rndC false (rootC (cvD a))) (Art arD a) ∧ vf_n64 (rootC (cvD a)) ∧ vf_n64 (Art arD a) ∧ ((cvD a).toNat % 2 ^ 63 = 0 ∨ (0 < (cvD a).toNat ∧ (cvD a).toNat < 1024 * 2 ^ 52)) := by
  have hn := bd_nnD ha
  refine ⟨?_, ?_, rootD_nn hn, rt_2 ha (nonneg_bits ha h)⟩
  · by_cases z : FP.dcmp a FP.dconst0 = some .eq
    · right
      refine ⟨rootC_z z, ?_⟩
      show FP.dcmp (rootD a) FP.dconst0 = some .eq
      unfold rootD
      rw [if_pos z]; exact z
    · left
      exact rootC_p hn h z
  · by_cases z : FP.dcmp a FP.dconst0 = some .eq
    · rw [show rootC (cvD a) = _ from rootC_z z]; exact nn_d0
    · rw [show rootC (cvD a) = _ from rootC_p hn h z]; exact rootD_nn hn
theorem rtF_ok {a : UInt32} (ha : BdF a) (h : ¬ Acm arF a (Ac arF 0) = some .lt) : EqvF (rndC true (rootC (cvF a))) (Art arF a) ∧ vf_n64 (rootC (cvF a)) ∧ vf_n32 (Art arF a) ∧ ((cvF a).toNat % 2 ^ 63 = 0 ∨ (0 < (cvF a).toNat ∧ (cvF a).toNat < 1024 * 2 ^ 52)) := by
  have hn := bd_nnF ha
  have hd := cvF_nn hn
  have e0 := cmp0F hn
  have hnan := (FP.Core.notNaN_iff32 a).mp (vn32_to hn)
  have e8 : FP.d2f (FP.f2d a) = a := by
    have g1 : FP.f2d a = FP.Core.f2d a := by unfold FP.f2d; rw [vn32_to hn]; rfl
    have g2 : FP.Core.dIsNaN (FP.f2d a) = false := vn64_to (f2d_nn hn)
    rw [fq_jd2f g2, g1, FP.Core.d2f_f2d hnan]
  have h2 : ¬ FP.dcmp (cvF a) FP.dconst0 = some .lt := by rw [e0]; exact h
  refine ⟨?_, ?_, d2f_nn (rootD_nn hd), rt_2 (f2d_mg ha) (nonneg_f2d ha h)⟩
  · by_cases z : FP.dcmp (cvF a) FP.dconst0 = some .eq
    · right
      refine ⟨by rw [rootC_z z]; exact rnd0 true, ?_⟩
      have e1 : Art arF a = a := by
        show FP.d2f (rootD (FP.f2d a)) = a
        unfold rootD
        rw [if_pos (show FP.dcmp (FP.f2d a) FP.dconst0 = some .eq from z)]; exact e8
      rw [e1, ← e0]; exact z
    · left
      rw [rootC_p hd h2 z]; rfl
  · by_cases z : FP.dcmp (cvF a) FP.dconst0 = some .eq
    · rw [rootC_z z]; exact nn_d0
    · rw [rootC_p hd h2 z]; exact rootD_nn hd
theorem glim_fnD {a s : UInt64} (ha : FnD a) (hs : FnD s) : FnD (glim arD a s) := by
  unfold glim
  split
  · exact hs
  · split
    · exact fn_negD hs
    · exact ha
theorem glim_fnF {a s : UInt32} (ha : FnF a) (hs : FnF s) : FnF (glim arF a s) := by
  unfold glim
  split
  · exact hs
  · split
    · exact fn_negF hs
    · exact ha
/-- what reading module m needs of a twin -/
abbrev Mod (σ : Hp) (fr : Int → Int) (se row st : Int → UInt64) (m : Int) : Prop := (hD σ 23 m = cvD (se m) ∧ (hI σ 4 m = 10 ∨ hI σ 4 m = 12 → BdD (se m))) ∧ (hD σ 24 m = cvD (st m) ∧ BdD (st m)) ∧ (hI σ 4 m = 11 → (0 ≤ hI σ 26 m ∧ hI σ 26 m < 16) ∧ hD σ 25 (m * 16 + hI σ 26 m) = cvD (row (16 * m)) ∧ BdD (row (16 * m))) ∧ (hI σ 4 m = 9 → ¬ fr (6 * m + 2) = -1) ∧ (hI σ 4 m = 7 → TbR (hI σ 11 m) (hD σ 12) (hD σ 13) m)
def Ecd (σ : Hp) (fr : Int → Int) (se row st : Int → UInt64) : Ev UInt64 := (hI σ 4, se, fr, hI σ 10, (hD σ 12), (hD σ 13), hI σ 11, row, st)
abbrev Rdd (σ : Hp) (r : Int → UInt64) (N : Nat) : Prop := ∀ k : Int, 0 ≤ k → k < N → hD σ 22 k = cvD (r k) ∧ BdD (r k)
/-- what reading module m needs of a twin -/
abbrev Mof (σ : Hp) (fr : Int → Int) (se row st : Int → UInt32) (m : Int) : Prop := (hD σ 36 m = cvF (se m) ∧ (hI σ 4 m = 10 ∨ hI σ 4 m = 12 → BdF (se m))) ∧ (hD σ 37 m = cvF (st m) ∧ BdF (st m)) ∧ (hI σ 4 m = 11 → (0 ≤ hI σ 39 m ∧ hI σ 39 m < 16) ∧ hD σ 38 (m * 16 + hI σ 39 m) = cvF (row (16 * m)) ∧ BdF (row (16 * m))) ∧ (hI σ 4 m = 9 → ¬ fr (6 * m + 2) = -1) ∧ (hI σ 4 m = 7 → TbR (hI σ 11 m) (hD σ 12) (hD σ 13) m)
def Ecf (σ : Hp) (fr : Int → Int) (se row st : Int → UInt32) : Ev UInt32 := (hI σ 4, se, fr, hI σ 10, xF (hD σ 12), xF (hD σ 13), hI σ 11, row, st)
abbrev Rdf (σ : Hp) (r : Int → UInt32) (N : Nat) : Prop := ∀ k : Int, 0 ≤ k → k < N → hD σ 35 k = cvF (r k) ∧ BdF (r k)
/-- what reading module m needs of a twin -/
abbrev Mot (σ : Hp) (fr : Int → Int) (se row st : Int → UInt64) (m : Int) : Prop := (hD σ 58 m = cvD (se m) ∧ (hI σ 4 m = 10 ∨ hI σ 4 m = 12 → BdD (se m))) ∧ (hD σ 59 m = cvD (st m) ∧ BdD (st m)) ∧ (hI σ 4 m = 11 → (0 ≤ hI σ 61 m ∧ hI σ 61 m < 16) ∧ hD σ 60 (m * 16 + hI σ 61 m) = cvD (row (16 * m)) ∧ BdD (row (16 * m))) ∧ (hI σ 4 m = 9 → ¬ fr (6 * m + 2) = -1) ∧ (hI σ 4 m = 7 → TbR (hI σ 11 m) (hD σ 12) (hD σ 13) m)
def Ect (σ : Hp) (fr : Int → Int) (se row st : Int → UInt64) : Ev UInt64 := (hI σ 4, se, fr, hI σ 10, (hD σ 12), (hD σ 13), hI σ 11, row, st)
abbrev Rdt (σ : Hp) (r : Int → UInt64) (N : Nat) : Prop := ∀ k : Int, 0 ≤ k → k < N → hD σ 57 k = cvD (r k) ∧ BdD (r k)
section TWC4
variable {σ : Hp} {Q : Option PV → Hp → Prop}
theorem cTd_plainReading {fr : Int → Int} {se row st r : Int → UInt64} {N : Nat} {m : Int} (hc : CtI σ fr N) (hfl : hI σ 21 3 = 0) (hm : 0 ≤ m ∧ m < N) (hr : Rdd σ r N) (hM : Mod σ fr se row st m) (hl : inR (hI σ 20 m))
    (hQ : ∀ v, EqvD v (gmE arD (Ecd σ fr se row st) r m).1 → vf_n64 (gmE arD (Ecd σ fr se row st) r m).1 → Q (some (vD v)) (wI σ 20 (lmp (hI σ 20) m (hI σ 19 1) (gmE arD (Ecd σ fr se row st) r m).2))) : Sp mT_plainReading [vR 21, vI m] σ Q := by
  obtain ⟨⟨se1, se2⟩, ⟨st1, st2⟩, hrw, h9, h7⟩ := hM
  have hkd := hc.2.2.1 m hm.1 hm.2
  have hN2 := hc.2.1
  have hb2 : ∀ k : Int, 0 ≤ k → k < N → BdD (r k) := fun k x y => (hr k x y).2
  have hga : ∀ i : Int, 0 ≤ i → i < 6 → BdD (ga arD fr (hI σ 10) r m i) := fun i x y => ga_bdD (hc.2.2.2 m i hm.1 hm.2 x y).2.1 hb2
  have ha := hga 0 (by omega) (by omega)
  have hb := hga 1 (by omega) (by omega)
  have gm : gmE arD (Ecd σ fr se row st) r m = gmk arD (hI σ 4 m) (ga arD fr (hI σ 10) r m 0) (ga arD fr (hI σ 10) r m 1) (gin arD fr (hI σ 10) r m 2) (se m) (gsum arD fr (hI σ 10) r m 6).1 (gtab arD ((hD σ 12)) ((hD σ 13)) (hI σ 11 m) m (ga arD fr (hI σ 10) r m 0)) (row (16 * m)) (st m) := rfl
  obtain ⟨A0, hA0⟩ : ∃ A0, A0 = ga arD fr (hI σ 10) r m 0 := ⟨_, rfl⟩
  obtain ⟨A1, hA1⟩ : ∃ A1, A1 = ga arD fr (hI σ 10) r m 1 := ⟨_, rfl⟩
  have fin0 : ∀ (v : UInt64) (x : UInt64), gmE arD (Ecd σ fr se row st) r m = (x, false) → EqvD v x → vf_n64 x → Q (some (vD v)) σ := fun v x e h1 h2 => by
    have := hQ v
    rw [e, lmp_f, wI_id] at this
    exact this h1 h2
  have fin1 : ∀ (v : UInt64) (x : UInt64), gmE arD (Ecd σ fr se row st) r m = (x, true) → EqvD v x → vf_n64 x → Q (some (vD v)) (wI σ 20 (lmp (hI σ 20) m (hI σ 19 1) true)) := fun v x e h1 h2 => by
    have := hQ v
    rw [e] at this
    exact this h1 h2
  have hsum := (gsum_fnD (tu := hI σ 10) (fun i a b => (hc.2.2.2 m i hm.1 hm.2 a b).2.1) hb2 6 (by omega)).2
  rw [← hA0] at gm ha
  rw [← hA1] at gm hb
  have mulm := fun (s : UInt64) (hs : FnD s) => hcD_mul (a := A0) (b := s) ha.fn hs
  have muln : ∀ s : UInt64, FnD s → vf_n64 (FP.dmul (cvD A0) (cvD s)) ∧ vf_n64 (Amul arD A0 s) := fun s hs => ⟨nn_mul (cvD_fn ha.fn) (cvD_fn hs), nn_mul ha.fn hs⟩
  have rt1 : hI σ 4 m = 6 → Acm arD A0 (Ac arD 0) = some .lt → J mT_plainReading 138 [] [vD FP.dconst0, vR 21] (wI σ 20 (lmp (hI σ 20) m (hI σ 19 1) true)) Q := fun hk hlt => by
    refine j_callS (m' := mN_root) (As := [_]) (p2 := 141) dT_plainReading_138 rfl ml_T_170 ok_mN_root sm_mN_root rfl rfl (Nat.le_of_ble_eq_true rfl) (Nat.le_of_ble_eq_true rfl) ⟨(Nat.le_of_ble_eq_true rfl), (Nat.le_of_ble_eq_true rfl)⟩ ?_
    refine cN_root (Or.inl (by decide)) ?_
    rw [rootC_0]
    refine j_callV (m' := mT_rounded) (As := [_]) (p2 := 144) dT_plainReading_141 rfl ml_T_74 ok_mT_rounded im_mT_rounded se_mT_rounded rfl rfl (Nat.le_of_ble_eq_true rfl) ly_21 rfl (Nat.le_of_ble_eq_true rfl) ⟨(Nat.le_of_ble_eq_true rfl), (Nat.le_of_ble_eq_true rfl)⟩ ?_
    refine cTd_rounded hfl nn_d0 ?_
    rw [rnd0]
    refine j_dreturn dT_plainReading_144 rfl (by exact fin1 _ (Ac arD 0) (by rw [gm, hk]; exact if_pos hlt) (Or.inl (hcD_c 0 (by decide)).symm) (nn_cD 0 (by decide)))
  have rt2 : hI σ 4 m = 6 → ¬ Acm arD A0 (Ac arD 0) = some .lt → J mT_plainReading 138 [] [vD (cvD A0), vR 21] σ Q := fun hk hnl => by
    obtain ⟨q1, q2, q3, q4⟩ := rtD_ok ha hnl
    refine j_callS (m' := mN_root) (As := [_]) (p2 := 141) dT_plainReading_138 rfl ml_T_170 ok_mN_root sm_mN_root rfl rfl (Nat.le_of_ble_eq_true rfl) (Nat.le_of_ble_eq_true rfl) ⟨(Nat.le_of_ble_eq_true rfl), (Nat.le_of_ble_eq_true rfl)⟩ ?_
    refine cN_root q4 ?_
    refine j_callV (m' := mT_rounded) (As := [_]) (p2 := 144) dT_plainReading_141 rfl ml_T_74 ok_mT_rounded im_mT_rounded se_mT_rounded rfl rfl (Nat.le_of_ble_eq_true rfl) ly_21 rfl (Nat.le_of_ble_eq_true rfl) ⟨(Nat.le_of_ble_eq_true rfl), (Nat.le_of_ble_eq_true rfl)⟩ ?_
    refine cTd_rounded hfl q2 ?_
    refine j_dreturn dT_plainReading_144 rfl (by exact fin0 _ (Art arD A0) (by rw [gm, hk]; exact if_neg hnl) q1 q3)
  refine j_aload_n (p2 := 1) dT_plainReading_0 rfl rfl ?_
  refine j_getR (p2 := 4) dT_plainReading_1 rfl fa_T_49 ly_21 rfl ?_
  refine j_getR (p2 := 7) dT_plainReading_4 rfl fa_T_119 ly_3 rfl ?_
  refine j_iload_n (p2 := 8) dT_plainReading_7 rfl rfl ?_
  refine j_iald (p2 := 9) dT_plainReading_8 rfl ly_4 (by decide) (by omega) (by omega) ?_
  rcases (by omega : hI σ 4 m = 0 ∨ hI σ 4 m = 1 ∨ hI σ 4 m = 2 ∨ hI σ 4 m = 3 ∨ hI σ 4 m = 4 ∨ hI σ 4 m = 5 ∨ hI σ 4 m = 6 ∨ hI σ 4 m = 7 ∨ hI σ 4 m = 8 ∨ hI σ 4 m = 9 ∨ hI σ 4 m = 10 ∨ hI σ 4 m = 11 ∨ hI σ 4 m = 12 ∨ 12 < hI σ 4 m) with hk | hk | hk | hk | hk | hk | hk | hk | hk | hk | hk | hk | hk | hk
  · refine j_tsw_in (tg := 76) dT_plainReading_9 (by constructor <;> omega) (by omega) (by omega) (by rw [hk]; rfl) (by decide) ?_
    refine j_aload_n (p2 := 77) dT_plainReading_76 rfl rfl ?_
    refine j_iload_n (p2 := 78) dT_plainReading_77 rfl rfl ?_
    refine j_callV (m' := mT_inputSum) (As := [_]) (p2 := 81) dT_plainReading_78 rfl ml_T_122 ok_mT_inputSum im_mT_inputSum se_mT_inputSum rfl rfl (Nat.le_of_ble_eq_true rfl) ly_21 rfl (Nat.le_of_ble_eq_true rfl) ⟨(Nat.le_of_ble_eq_true rfl), (Nat.le_of_ble_eq_true rfl)⟩ ?_
    refine cTd_inputSum hc hfl hm hr ?_
    refine j_dreturn dT_plainReading_81 rfl (by exact fin0 _ _ (by rw [gm, hk]; rfl) (Or.inl rfl) (fn_nnD hsum))
  · refine j_tsw_in (tg := 82) dT_plainReading_9 (by constructor <;> omega) (by omega) (by omega) (by rw [hk]; rfl) (by decide) ?_
    refine j_aload_n (p2 := 83) dT_plainReading_82 rfl rfl ?_
    refine j_iload_n (p2 := 84) dT_plainReading_83 rfl rfl ?_
    refine j_iconst (p2 := 85) dT_plainReading_84 rfl ?_
    refine j_callV (m' := mT_in) (As := [_, _]) (p2 := 88) dT_plainReading_85 rfl ml_T_134 ok_mT_in im_mT_in se_mT_in rfl rfl (Nat.le_of_ble_eq_true rfl) ly_21 rfl (Nat.le_of_ble_eq_true rfl) ⟨(Nat.le_of_ble_eq_true rfl), (Nat.le_of_ble_eq_true rfl)⟩ ?_
    refine cTd_in hc hm (by omega) hr ?_
    first
      | rw [← hA0]
      | rw [← hA1]
      | skip
    refine j_dneg (p2 := 89) dT_plainReading_88 rfl ?_
    refine j_dreturn dT_plainReading_89 rfl (by rw [hcD_neg ha.fn]; exact fin0 _ _ (by rw [gm, hk]; rfl) (Or.inl rfl) (fn_nnD (fn_negD ha.fn)))
  · refine j_tsw_in (tg := 259) dT_plainReading_9 (by constructor <;> omega) (by omega) (by omega) (by rw [hk]; rfl) (by decide) ?_
    refine j_aload_n (p2 := 260) dT_plainReading_259 rfl rfl ?_
    refine j_getR (p2 := 263) dT_plainReading_260 rfl fa_T_18 ly_21 rfl ?_
    refine j_iload_n (p2 := 264) dT_plainReading_263 rfl rfl ?_
    refine j_dald (p2 := 265) dT_plainReading_264 rfl ly_24 (by decide) (by omega) (by omega) ?_
    refine j_dreturn dT_plainReading_265 rfl (by have hk2 : hI σ 4 m = 2 ∨ hI σ 4 m = 3 ∨ hI σ 4 m = 13 := (by omega); exact fin0 _ (st m) (by rw [gm]; rcases hk2 with z | z | z <;> (rw [z]; rfl)) (Or.inl st1) (bd_nnD st2))
  · refine j_tsw_in (tg := 259) dT_plainReading_9 (by constructor <;> omega) (by omega) (by omega) (by rw [hk]; rfl) (by decide) ?_
    refine j_aload_n (p2 := 260) dT_plainReading_259 rfl rfl ?_
    refine j_getR (p2 := 263) dT_plainReading_260 rfl fa_T_18 ly_21 rfl ?_
    refine j_iload_n (p2 := 264) dT_plainReading_263 rfl rfl ?_
    refine j_dald (p2 := 265) dT_plainReading_264 rfl ly_24 (by decide) (by omega) (by omega) ?_
    refine j_dreturn dT_plainReading_265 rfl (by have hk2 : hI σ 4 m = 2 ∨ hI σ 4 m = 3 ∨ hI σ 4 m = 13 := (by omega); exact fin0 _ (st m) (by rw [gm]; rcases hk2 with z | z | z <;> (rw [z]; rfl)) (Or.inl st1) (bd_nnD st2))
  · refine j_tsw_in (tg := 90) dT_plainReading_9 (by constructor <;> omega) (by omega) (by omega) (by rw [hk]; rfl) (by decide) ?_
    refine j_aload_n (p2 := 91) dT_plainReading_90 rfl rfl ?_
    refine j_aload_n (p2 := 92) dT_plainReading_91 rfl rfl ?_
    refine j_iload_n (p2 := 93) dT_plainReading_92 rfl rfl ?_
    refine j_iconst (p2 := 94) dT_plainReading_93 rfl ?_
    refine j_callV (m' := mT_in) (As := [_, _]) (p2 := 97) dT_plainReading_94 rfl ml_T_134 ok_mT_in im_mT_in se_mT_in rfl rfl (Nat.le_of_ble_eq_true rfl) ly_21 rfl (Nat.le_of_ble_eq_true rfl) ⟨(Nat.le_of_ble_eq_true rfl), (Nat.le_of_ble_eq_true rfl)⟩ ?_
    refine cTd_in hc hm (by omega) hr ?_
    first
      | rw [← hA0]
      | rw [← hA1]
      | skip
    refine j_aload_n (p2 := 98) dT_plainReading_97 rfl rfl ?_
    refine j_iload_n (p2 := 99) dT_plainReading_98 rfl rfl ?_
    refine j_iconst (p2 := 100) dT_plainReading_99 rfl ?_
    refine j_callV (m' := mT_in) (As := [_, _]) (p2 := 103) dT_plainReading_100 rfl ml_T_134 ok_mT_in im_mT_in se_mT_in rfl rfl (Nat.le_of_ble_eq_true rfl) ly_21 rfl (Nat.le_of_ble_eq_true rfl) ⟨(Nat.le_of_ble_eq_true rfl), (Nat.le_of_ble_eq_true rfl)⟩ ?_
    refine cTd_in hc hm (by omega) hr ?_
    first
      | rw [← hA0]
      | rw [← hA1]
      | skip
    refine j_dmul (p2 := 104) dT_plainReading_103 rfl (muln A1 hb.fn).1 ?_
    refine j_callV (m' := mT_rounded) (As := [_]) (p2 := 107) dT_plainReading_104 rfl ml_T_74 ok_mT_rounded im_mT_rounded se_mT_rounded rfl rfl (Nat.le_of_ble_eq_true rfl) ly_21 rfl (Nat.le_of_ble_eq_true rfl) ⟨(Nat.le_of_ble_eq_true rfl), (Nat.le_of_ble_eq_true rfl)⟩ ?_
    refine cTd_rounded hfl (muln A1 hb.fn).1 ?_
    refine j_dreturn dT_plainReading_107 rfl (by rw [mulm A1 hb.fn]; exact fin0 _ _ (by rw [gm, hk]; rfl) (Or.inl rfl) (muln A1 hb.fn).2)
  · refine j_tsw_in (tg := 108) dT_plainReading_9 (by constructor <;> omega) (by omega) (by omega) (by rw [hk]; rfl) (by decide) ?_
    refine j_aload_n (p2 := 109) dT_plainReading_108 rfl rfl ?_
    refine j_iload_n (p2 := 110) dT_plainReading_109 rfl rfl ?_
    refine j_aload_n (p2 := 111) dT_plainReading_110 rfl rfl ?_
    refine j_iload_n (p2 := 112) dT_plainReading_111 rfl rfl ?_
    refine j_iconst (p2 := 113) dT_plainReading_112 rfl ?_
    refine j_callV (m' := mT_in) (As := [_, _]) (p2 := 116) dT_plainReading_113 rfl ml_T_134 ok_mT_in im_mT_in se_mT_in rfl rfl (Nat.le_of_ble_eq_true rfl) ly_21 rfl (Nat.le_of_ble_eq_true rfl) ⟨(Nat.le_of_ble_eq_true rfl), (Nat.le_of_ble_eq_true rfl)⟩ ?_
    refine cTd_in hc hm (by omega) hr ?_
    first
      | rw [← hA0]
      | rw [← hA1]
      | skip
    refine j_aload_n (p2 := 117) dT_plainReading_116 rfl rfl ?_
    refine j_iload_n (p2 := 118) dT_plainReading_117 rfl rfl ?_
    refine j_iconst (p2 := 119) dT_plainReading_118 rfl ?_
    refine j_callV (m' := mT_in) (As := [_, _]) (p2 := 122) dT_plainReading_119 rfl ml_T_134 ok_mT_in im_mT_in se_mT_in rfl rfl (Nat.le_of_ble_eq_true rfl) ly_21 rfl (Nat.le_of_ble_eq_true rfl) ⟨(Nat.le_of_ble_eq_true rfl), (Nat.le_of_ble_eq_true rfl)⟩ ?_
    refine cTd_in hc hm (by omega) hr ?_
    first
      | rw [← hA0]
      | rw [← hA1]
      | skip
    refine j_callV (m' := mT_quotient) (As := [_, _, _]) (p2 := 125) dT_plainReading_122 rfl ml_T_163 ok_mT_quotient im_mT_quotient se_mT_quotient rfl rfl (Nat.le_of_ble_eq_true rfl) ly_21 rfl (Nat.le_of_ble_eq_true rfl) ⟨(Nat.le_of_ble_eq_true rfl), (Nat.le_of_ble_eq_true rfl)⟩ ?_
    refine cTd_quotient ha hb hfl (by omega) hl (fun nq => ?_)
    refine j_dreturn dT_plainReading_125 rfl (by have e : gmE arD (Ecd σ fr se row st) r m = gquo arD A0 A1 := (by rw [gm, hk]; rfl); rw [e] at hQ; exact hQ _ (Or.inl rfl) nq)
  · refine j_tsw_in (tg := 126) dT_plainReading_9 (by constructor <;> omega) (by omega) (by omega) (by rw [hk]; rfl) (by decide) ?_
    refine j_aload_n (p2 := 127) dT_plainReading_126 rfl rfl ?_
    refine j_aload_n (p2 := 128) dT_plainReading_127 rfl rfl ?_
    refine j_iload_n (p2 := 129) dT_plainReading_128 rfl rfl ?_
    refine j_aload_n (p2 := 130) dT_plainReading_129 rfl rfl ?_
    refine j_iload_n (p2 := 131) dT_plainReading_130 rfl rfl ?_
    refine j_iconst (p2 := 132) dT_plainReading_131 rfl ?_
    refine j_callV (m' := mT_in) (As := [_, _]) (p2 := 135) dT_plainReading_132 rfl ml_T_134 ok_mT_in im_mT_in se_mT_in rfl rfl (Nat.le_of_ble_eq_true rfl) ly_21 rfl (Nat.le_of_ble_eq_true rfl) ⟨(Nat.le_of_ble_eq_true rfl), (Nat.le_of_ble_eq_true rfl)⟩ ?_
    refine cTd_in hc hm (by omega) hr ?_
    first
      | rw [← hA0]
      | rw [← hA1]
      | skip
    refine j_callV (m' := mT_notBelowZero) (As := [_, _]) (p2 := 138) dT_plainReading_135 rfl ml_T_167 ok_mT_notBelowZero im_mT_notBelowZero se_mT_notBelowZero rfl rfl (Nat.le_of_ble_eq_true rfl) ly_21 rfl (Nat.le_of_ble_eq_true rfl) ⟨(Nat.le_of_ble_eq_true rfl), (Nat.le_of_ble_eq_true rfl)⟩ ?_
    refine cTd_notBelowZero ha (by omega) hl (fun hlt => J.loc (lv' := []) trivial (rt1 hk hlt)) (fun hnl => J.loc (lv' := []) trivial (rt2 hk hnl))
    skip
  · refine j_tsw_in (tg := 145) dT_plainReading_9 (by constructor <;> omega) (by omega) (by omega) (by rw [hk]; rfl) (by decide) ?_
    refine j_aload_n (p2 := 146) dT_plainReading_145 rfl rfl ?_
    refine j_iload_n (p2 := 147) dT_plainReading_146 rfl rfl ?_
    refine j_aload_n (p2 := 148) dT_plainReading_147 rfl rfl ?_
    refine j_iload_n (p2 := 149) dT_plainReading_148 rfl rfl ?_
    refine j_iconst (p2 := 150) dT_plainReading_149 rfl ?_
    refine j_callV (m' := mT_in) (As := [_, _]) (p2 := 153) dT_plainReading_150 rfl ml_T_134 ok_mT_in im_mT_in se_mT_in rfl rfl (Nat.le_of_ble_eq_true rfl) ly_21 rfl (Nat.le_of_ble_eq_true rfl) ⟨(Nat.le_of_ble_eq_true rfl), (Nat.le_of_ble_eq_true rfl)⟩ ?_
    refine cTd_in hc hm (by omega) hr ?_
    first
      | rw [← hA0]
      | rw [← hA1]
      | skip
    refine j_callV (m' := mT_fromTable) (As := [_, _]) (p2 := 156) dT_plainReading_153 rfl ml_T_175 ok_mT_fromTable im_mT_fromTable se_mT_fromTable rfl rfl (Nat.le_of_ble_eq_true rfl) ly_21 rfl (Nat.le_of_ble_eq_true rfl) ⟨(Nat.le_of_ble_eq_true rfl), (Nat.le_of_ble_eq_true rfl)⟩ ?_
    refine cTd_fromTable (by omega) hfl ha (h7 hk) (fun nt => ?_)
    refine j_dreturn dT_plainReading_156 rfl (by exact fin0 _ _ (by rw [gm, hk, hA0]; rfl) (Or.inl rfl) nt)
  · refine j_tsw_in (tg := 157) dT_plainReading_9 (by constructor <;> omega) (by omega) (by omega) (by rw [hk]; rfl) (by decide) ?_
    refine j_aload_n (p2 := 158) dT_plainReading_157 rfl rfl ?_
    refine j_iload_n (p2 := 159) dT_plainReading_158 rfl rfl ?_
    refine j_iconst (p2 := 160) dT_plainReading_159 rfl ?_
    refine j_callV (m' := mT_in) (As := [_, _]) (p2 := 163) dT_plainReading_160 rfl ml_T_134 ok_mT_in im_mT_in se_mT_in rfl rfl (Nat.le_of_ble_eq_true rfl) ly_21 rfl (Nat.le_of_ble_eq_true rfl) ⟨(Nat.le_of_ble_eq_true rfl), (Nat.le_of_ble_eq_true rfl)⟩ ?_
    refine cTd_in hc hm (by omega) hr ?_
    first
      | rw [← hA0]
      | rw [← hA1]
      | skip
    refine j_aload_n (p2 := 164) dT_plainReading_163 rfl rfl ?_
    refine j_iload_n (p2 := 165) dT_plainReading_164 rfl rfl ?_
    refine j_iconst (p2 := 166) dT_plainReading_165 rfl ?_
    refine j_callV (m' := mT_in) (As := [_, _]) (p2 := 169) dT_plainReading_166 rfl ml_T_134 ok_mT_in im_mT_in se_mT_in rfl rfl (Nat.le_of_ble_eq_true rfl) ly_21 rfl (Nat.le_of_ble_eq_true rfl) ⟨(Nat.le_of_ble_eq_true rfl), (Nat.le_of_ble_eq_true rfl)⟩ ?_
    refine cTd_in hc hm (by omega) hr ?_
    first
      | rw [← hA0]
      | rw [← hA1]
      | skip
    refine j_dcmp_l_le (p1 := 170) (p2 := 173) (tg := 177) dT_plainReading_169 rfl dT_plainReading_170 rfl (by decide) (fun h169 => ?_) (fun h169 => ?_)
    · refine j_ldc2d (p2 := 180) dT_plainReading_177 rfl cw_T_178 ?_
      refine j_dreturn dT_plainReading_180 rfl (by have hcm := hcD_cmp (a := A0) (b := A1) (bd_nnD ha) hb.fn; rw [hcm] at h169; have e : gmE arD (Ecd σ fr se row st) r m = (if Acm arD A0 A1 = some .gt then Ac arD 1 else Ac arD 2, false) := (by rw [gm, hk]; rfl); first | exact fin0 _ _ (e.trans (by rw [if_pos h169])) (Or.inl (hcD_c 1 (by decide)).symm) (nn_cD 1 (by decide)) | exact fin0 _ _ (e.trans (by rw [if_neg h169])) (Or.inl (hcD_c 2 (by decide)).symm) (nn_cD 2 (by decide)))
    · refine j_dconst1 (p2 := 174) dT_plainReading_173 rfl ?_
      refine j_goto (p2 := 180) dT_plainReading_174 (by decide) ?_
      refine j_dreturn dT_plainReading_180 rfl (by have hcm := hcD_cmp (a := A0) (b := A1) (bd_nnD ha) hb.fn; rw [hcm] at h169; have e : gmE arD (Ecd σ fr se row st) r m = (if Acm arD A0 A1 = some .gt then Ac arD 1 else Ac arD 2, false) := (by rw [gm, hk]; rfl); first | exact fin0 _ _ (e.trans (by rw [if_pos h169])) (Or.inl (hcD_c 1 (by decide)).symm) (nn_cD 1 (by decide)) | exact fin0 _ _ (e.trans (by rw [if_neg h169])) (Or.inl (hcD_c 2 (by decide)).symm) (nn_cD 2 (by decide)))
  · refine j_tsw_in (tg := 181) dT_plainReading_9 (by constructor <;> omega) (by omega) (by omega) (by rw [hk]; rfl) (by decide) ?_
    refine j_aload_n (p2 := 182) dT_plainReading_181 rfl rfl ?_
    refine j_iload_n (p2 := 183) dT_plainReading_182 rfl rfl ?_
    refine j_iconst (p2 := 184) dT_plainReading_183 rfl ?_
    refine j_callV (m' := mT_in) (As := [_, _]) (p2 := 187) dT_plainReading_184 rfl ml_T_134 ok_mT_in im_mT_in se_mT_in rfl rfl (Nat.le_of_ble_eq_true rfl) ly_21 rfl (Nat.le_of_ble_eq_true rfl) ⟨(Nat.le_of_ble_eq_true rfl), (Nat.le_of_ble_eq_true rfl)⟩ ?_
    refine cTd_in hc hm (by omega) hr ?_
    first
      | rw [← hA0]
      | rw [← hA1]
      | skip
    refine j_dconst0 (p2 := 188) dT_plainReading_187 rfl ?_
    refine j_dcmp_l_le (p1 := 189) (p2 := 192) (tg := 201) dT_plainReading_188 rfl dT_plainReading_189 rfl (by decide) (fun h188 => ?_) (fun h188 => ?_)
    · refine j_aload_n (p2 := 202) dT_plainReading_201 rfl rfl ?_
      refine j_iload_n (p2 := 203) dT_plainReading_202 rfl rfl ?_
      refine j_iconst (p2 := 204) dT_plainReading_203 rfl ?_
      refine j_callV (m' := mT_in) (As := [_, _]) (p2 := 207) dT_plainReading_204 rfl ml_T_134 ok_mT_in im_mT_in se_mT_in rfl rfl (Nat.le_of_ble_eq_true rfl) ly_21 rfl (Nat.le_of_ble_eq_true rfl) ⟨(Nat.le_of_ble_eq_true rfl), (Nat.le_of_ble_eq_true rfl)⟩ ?_
      refine cTd_in hc hm (by omega) hr ?_
      first
        | rw [← hA0]
        | rw [← hA1]
        | skip
      refine j_dreturn dT_plainReading_207 rfl (by have e2 : ga arD fr (hI σ 10) r m 2 = gin arD fr (hI σ 10) r m 2 := if_neg (h9 hk); have hc2 := cmp0D (bd_nnD (hga 2 (by omega) (by omega))); rw [hc2, e2] at h188; have e : gmE arD (Ecd σ fr se row st) r m = (if Acm arD (gin arD fr (hI σ 10) r m 2) (Ac arD 0) = some .gt then A0 else A1, false) := (by rw [gm, hk]; rfl); first | exact fin0 _ _ (e.trans (by rw [if_pos h188])) (Or.inl rfl) (bd_nnD ha) | exact fin0 _ _ (e.trans (by rw [if_neg h188])) (Or.inl rfl) (bd_nnD hb))
    · refine j_aload_n (p2 := 193) dT_plainReading_192 rfl rfl ?_
      refine j_iload_n (p2 := 194) dT_plainReading_193 rfl rfl ?_
      refine j_iconst (p2 := 195) dT_plainReading_194 rfl ?_
      refine j_callV (m' := mT_in) (As := [_, _]) (p2 := 198) dT_plainReading_195 rfl ml_T_134 ok_mT_in im_mT_in se_mT_in rfl rfl (Nat.le_of_ble_eq_true rfl) ly_21 rfl (Nat.le_of_ble_eq_true rfl) ⟨(Nat.le_of_ble_eq_true rfl), (Nat.le_of_ble_eq_true rfl)⟩ ?_
      refine cTd_in hc hm (by omega) hr ?_
      first
        | rw [← hA0]
        | rw [← hA1]
        | skip
      refine j_goto (p2 := 207) dT_plainReading_198 (by decide) ?_
      refine j_dreturn dT_plainReading_207 rfl (by have e2 : ga arD fr (hI σ 10) r m 2 = gin arD fr (hI σ 10) r m 2 := if_neg (h9 hk); have hc2 := cmp0D (bd_nnD (hga 2 (by omega) (by omega))); rw [hc2, e2] at h188; have e : gmE arD (Ecd σ fr se row st) r m = (if Acm arD (gin arD fr (hI σ 10) r m 2) (Ac arD 0) = some .gt then A0 else A1, false) := (by rw [gm, hk]; rfl); first | exact fin0 _ _ (e.trans (by rw [if_pos h188])) (Or.inl rfl) (bd_nnD ha) | exact fin0 _ _ (e.trans (by rw [if_neg h188])) (Or.inl rfl) (bd_nnD hb))
  · refine j_tsw_in (tg := 208) dT_plainReading_9 (by constructor <;> omega) (by omega) (by omega) (by rw [hk]; rfl) (by decide) ?_
    refine j_aload_n (p2 := 209) dT_plainReading_208 rfl rfl ?_
    refine j_aload_n (p2 := 210) dT_plainReading_209 rfl rfl ?_
    refine j_iload_n (p2 := 211) dT_plainReading_210 rfl rfl ?_
    refine j_iconst (p2 := 212) dT_plainReading_211 rfl ?_
    refine j_callV (m' := mT_in) (As := [_, _]) (p2 := 215) dT_plainReading_212 rfl ml_T_134 ok_mT_in im_mT_in se_mT_in rfl rfl (Nat.le_of_ble_eq_true rfl) ly_21 rfl (Nat.le_of_ble_eq_true rfl) ⟨(Nat.le_of_ble_eq_true rfl), (Nat.le_of_ble_eq_true rfl)⟩ ?_
    refine cTd_in hc hm (by omega) hr ?_
    first
      | rw [← hA0]
      | rw [← hA1]
      | skip
    refine j_aload_n (p2 := 216) dT_plainReading_215 rfl rfl ?_
    refine j_getR (p2 := 219) dT_plainReading_216 rfl fa_T_15 ly_21 rfl ?_
    refine j_iload_n (p2 := 220) dT_plainReading_219 rfl rfl ?_
    refine j_dald (p2 := 221) dT_plainReading_220 rfl ly_23 (by decide) (by omega) (by omega) ?_
    refine j_dmul (p2 := 222) dT_plainReading_221 rfl (by rw [se1]; exact (muln (se m) (se2 (Or.inl hk)).fn).1) ?_
    refine j_callV (m' := mT_rounded) (As := [_]) (p2 := 225) dT_plainReading_222 rfl ml_T_74 ok_mT_rounded im_mT_rounded se_mT_rounded rfl rfl (Nat.le_of_ble_eq_true rfl) ly_21 rfl (Nat.le_of_ble_eq_true rfl) ⟨(Nat.le_of_ble_eq_true rfl), (Nat.le_of_ble_eq_true rfl)⟩ ?_
    rw [se1]
    refine cTd_rounded hfl (muln (se m) (se2 (Or.inl hk)).fn).1 ?_
    refine j_dreturn dT_plainReading_225 rfl (by rw [mulm (se m) (se2 (Or.inl hk)).fn]; exact fin0 _ _ (by rw [gm, hk]; rfl) (Or.inl rfl) (muln (se m) (se2 (Or.inl hk)).fn).2)
  · refine j_tsw_in (tg := 226) dT_plainReading_9 (by constructor <;> omega) (by omega) (by omega) (by rw [hk]; rfl) (by decide) ?_
    refine j_aload_n (p2 := 227) dT_plainReading_226 rfl rfl ?_
    refine j_getR (p2 := 230) dT_plainReading_227 rfl fa_T_21 ly_21 rfl ?_
    refine j_iload_n (p2 := 231) dT_plainReading_230 rfl rfl ?_
    refine j_bipush (v := 16) (p2 := 233) dT_plainReading_231 rfl rfl ?_
    refine j_imul (p2 := 234) dT_plainReading_233 rfl ?_
    refine j_aload_n (p2 := 235) dT_plainReading_234 rfl rfl ?_
    refine j_getR (p2 := 238) dT_plainReading_235 rfl fa_T_24 ly_21 rfl ?_
    refine j_iload_n (p2 := 239) dT_plainReading_238 rfl rfl ?_
    refine j_iald (p2 := 240) dT_plainReading_239 rfl ly_26 (by decide) (by omega) (by omega) ?_
    refine j_iadd (p2 := 241) dT_plainReading_240 rfl ?_
    refine j_dald (p2 := 242) dT_plainReading_241 rfl ly_25 (by decide) (by have := (hrw hk).1; omega) (by have := (hrw hk).1; omega) ?_
    refine j_dreturn dT_plainReading_242 rfl (by exact fin0 _ (row (16 * m)) (by rw [gm, hk]; rfl) (Or.inl (hrw hk).2.1) (bd_nnD (hrw hk).2.2))
  · refine j_tsw_in (tg := 243) dT_plainReading_9 (by constructor <;> omega) (by omega) (by omega) (by rw [hk]; rfl) (by decide) ?_
    refine j_aload_n (p2 := 244) dT_plainReading_243 rfl rfl ?_
    refine j_iload_n (p2 := 245) dT_plainReading_244 rfl rfl ?_
    refine j_iconst (p2 := 246) dT_plainReading_245 rfl ?_
    refine j_callV (m' := mT_in) (As := [_, _]) (p2 := 249) dT_plainReading_246 rfl ml_T_134 ok_mT_in im_mT_in se_mT_in rfl rfl (Nat.le_of_ble_eq_true rfl) ly_21 rfl (Nat.le_of_ble_eq_true rfl) ⟨(Nat.le_of_ble_eq_true rfl), (Nat.le_of_ble_eq_true rfl)⟩ ?_
    refine cTd_in hc hm (by omega) hr ?_
    first
      | rw [← hA0]
      | rw [← hA1]
      | skip
    refine j_aload_n (p2 := 250) dT_plainReading_249 rfl rfl ?_
    refine j_getR (p2 := 253) dT_plainReading_250 rfl fa_T_15 ly_21 rfl ?_
    refine j_iload_n (p2 := 254) dT_plainReading_253 rfl rfl ?_
    refine j_dald (p2 := 255) dT_plainReading_254 rfl ly_23 (by decide) (by omega) (by omega) ?_
    refine j_callS (m' := mT_limited) (As := [_, _]) (p2 := 258) dT_plainReading_255 rfl ml_T_180 ok_mT_limited sm_mT_limited rfl rfl (Nat.le_of_ble_eq_true rfl) (Nat.le_of_ble_eq_true rfl) ⟨(Nat.le_of_ble_eq_true rfl), (Nat.le_of_ble_eq_true rfl)⟩ ?_
    rw [se1]
    refine cT_limitedD ha.fn (se2 (Or.inr hk)).fn ?_
    refine j_dreturn dT_plainReading_258 rfl (by exact fin0 _ (glim arD A0 (se m)) (by rw [gm, hk]; rfl) (Or.inl rfl) (fn_nnD (glim_fnD ha.fn (se2 (Or.inr hk)).fn)))
  · refine j_tsw_out (tg := 259) dT_plainReading_9 (by constructor <;> omega) (by omega) (by decide) ?_
    refine j_aload_n (p2 := 260) dT_plainReading_259 rfl rfl ?_
    refine j_getR (p2 := 263) dT_plainReading_260 rfl fa_T_18 ly_21 rfl ?_
    refine j_iload_n (p2 := 264) dT_plainReading_263 rfl rfl ?_
    refine j_dald (p2 := 265) dT_plainReading_264 rfl ly_24 (by decide) (by omega) (by omega) ?_
    refine j_dreturn dT_plainReading_265 rfl (by have hk2 : hI σ 4 m = 2 ∨ hI σ 4 m = 3 ∨ hI σ 4 m = 13 := (by omega); exact fin0 _ (st m) (by rw [gm]; rcases hk2 with z | z | z <;> (rw [z]; rfl)) (Or.inl st1) (bd_nnD st2))
theorem cTf_plainReading {fr : Int → Int} {se row st r : Int → UInt32} {N : Nat} {m : Int} (hc : CtI σ fr N) (hfl : hI σ 34 3 = 1) (hm : 0 ≤ m ∧ m < N) (hr : Rdf σ r N) (hM : Mof σ fr se row st m) (hl : inR (hI σ 20 m))
    (hQ : ∀ v, EqvF v (gmE arF (Ecf σ fr se row st) r m).1 → vf_n32 (gmE arF (Ecf σ fr se row st) r m).1 → Q (some (vD v)) (wI σ 20 (lmp (hI σ 20) m (hI σ 19 1) (gmE arF (Ecf σ fr se row st) r m).2))) : Sp mT_plainReading [vR 34, vI m] σ Q := by
  obtain ⟨⟨se1, se2⟩, ⟨st1, st2⟩, hrw, h9, h7⟩ := hM
  have hkd := hc.2.2.1 m hm.1 hm.2
  have hN2 := hc.2.1
  have hb2 : ∀ k : Int, 0 ≤ k → k < N → BdF (r k) := fun k x y => (hr k x y).2
  have hga : ∀ i : Int, 0 ≤ i → i < 6 → BdF (ga arF fr (hI σ 10) r m i) := fun i x y => ga_bdF (hc.2.2.2 m i hm.1 hm.2 x y).2.1 hb2
  have ha := hga 0 (by omega) (by omega)
  have hb := hga 1 (by omega) (by omega)
  have gm : gmE arF (Ecf σ fr se row st) r m = gmk arF (hI σ 4 m) (ga arF fr (hI σ 10) r m 0) (ga arF fr (hI σ 10) r m 1) (gin arF fr (hI σ 10) r m 2) (se m) (gsum arF fr (hI σ 10) r m 6).1 (gtab arF (xF (hD σ 12)) (xF (hD σ 13)) (hI σ 11 m) m (ga arF fr (hI σ 10) r m 0)) (row (16 * m)) (st m) := rfl
  obtain ⟨A0, hA0⟩ : ∃ A0, A0 = ga arF fr (hI σ 10) r m 0 := ⟨_, rfl⟩
  obtain ⟨A1, hA1⟩ : ∃ A1, A1 = ga arF fr (hI σ 10) r m 1 := ⟨_, rfl⟩
  have fin0 : ∀ (v : UInt64) (x : UInt32), gmE arF (Ecf σ fr se row st) r m = (x, false) → EqvF v x → vf_n32 x → Q (some (vD v)) σ := fun v x e h1 h2 => by
    have := hQ v
    rw [e, lmp_f, wI_id] at this
    exact this h1 h2
  have fin1 : ∀ (v : UInt64) (x : UInt32), gmE arF (Ecf σ fr se row st) r m = (x, true) → EqvF v x → vf_n32 x → Q (some (vD v)) (wI σ 20 (lmp (hI σ 20) m (hI σ 19 1) true)) := fun v x e h1 h2 => by
    have := hQ v
    rw [e] at this
    exact this h1 h2
  have hsum := (gsum_fnF (tu := hI σ 10) (fun i a b => (hc.2.2.2 m i hm.1 hm.2 a b).2.1) hb2 6 (by omega)).2
  rw [← hA0] at gm ha
  rw [← hA1] at gm hb
  have mulm := fun (s : UInt32) (hs : FnF s) => hcF_mul (a := A0) (b := s) ha.fn hs
  have muln : ∀ s : UInt32, FnF s → vf_n64 (FP.dmul (cvF A0) (cvF s)) ∧ vf_n32 (Amul arF A0 s) := fun s hs => ⟨nn_mul (cvF_fn ha.fn) (cvF_fn hs), nnf_mul ha.fn hs⟩
  have rt1 : hI σ 4 m = 6 → Acm arF A0 (Ac arF 0) = some .lt → J mT_plainReading 138 [] [vD FP.dconst0, vR 34] (wI σ 20 (lmp (hI σ 20) m (hI σ 19 1) true)) Q := fun hk hlt => by
    refine j_callS (m' := mN_root) (As := [_]) (p2 := 141) dT_plainReading_138 rfl ml_T_170 ok_mN_root sm_mN_root rfl rfl (Nat.le_of_ble_eq_true rfl) (Nat.le_of_ble_eq_true rfl) ⟨(Nat.le_of_ble_eq_true rfl), (Nat.le_of_ble_eq_true rfl)⟩ ?_
    refine cN_root (Or.inl (by decide)) ?_
    rw [rootC_0]
    refine j_callV (m' := mT_rounded) (As := [_]) (p2 := 144) dT_plainReading_141 rfl ml_T_74 ok_mT_rounded im_mT_rounded se_mT_rounded rfl rfl (Nat.le_of_ble_eq_true rfl) ly_34 rfl (Nat.le_of_ble_eq_true rfl) ⟨(Nat.le_of_ble_eq_true rfl), (Nat.le_of_ble_eq_true rfl)⟩ ?_
    refine cTf_rounded hfl nn_d0 ?_
    rw [rnd0]
    refine j_dreturn dT_plainReading_144 rfl (by exact fin1 _ (Ac arF 0) (by rw [gm, hk]; exact if_pos hlt) (Or.inl (hcF_c 0 (by decide)).symm) (nn_cF 0 (by decide)))
  have rt2 : hI σ 4 m = 6 → ¬ Acm arF A0 (Ac arF 0) = some .lt → J mT_plainReading 138 [] [vD (cvF A0), vR 34] σ Q := fun hk hnl => by
    obtain ⟨q1, q2, q3, q4⟩ := rtF_ok ha hnl
    refine j_callS (m' := mN_root) (As := [_]) (p2 := 141) dT_plainReading_138 rfl ml_T_170 ok_mN_root sm_mN_root rfl rfl (Nat.le_of_ble_eq_true rfl) (Nat.le_of_ble_eq_true rfl) ⟨(Nat.le_of_ble_eq_true rfl), (Nat.le_of_ble_eq_true rfl)⟩ ?_
    refine cN_root q4 ?_
    refine j_callV (m' := mT_rounded) (As := [_]) (p2 := 144) dT_plainReading_141 rfl ml_T_74 ok_mT_rounded im_mT_rounded se_mT_rounded rfl rfl (Nat.le_of_ble_eq_true rfl) ly_34 rfl (Nat.le_of_ble_eq_true rfl) ⟨(Nat.le_of_ble_eq_true rfl), (Nat.le_of_ble_eq_true rfl)⟩ ?_
    refine cTf_rounded hfl q2 ?_
    refine j_dreturn dT_plainReading_144 rfl (by exact fin0 _ (Art arF A0) (by rw [gm, hk]; exact if_neg hnl) q1 q3)
  refine j_aload_n (p2 := 1) dT_plainReading_0 rfl rfl ?_
  refine j_getR (p2 := 4) dT_plainReading_1 rfl fa_T_49 ly_34 rfl ?_
  refine j_getR (p2 := 7) dT_plainReading_4 rfl fa_T_119 ly_3 rfl ?_
  refine j_iload_n (p2 := 8) dT_plainReading_7 rfl rfl ?_
  refine j_iald (p2 := 9) dT_plainReading_8 rfl ly_4 (by decide) (by omega) (by omega) ?_
  rcases (by omega : hI σ 4 m = 0 ∨ hI σ 4 m = 1 ∨ hI σ 4 m = 2 ∨ hI σ 4 m = 3 ∨ hI σ 4 m = 4 ∨ hI σ 4 m = 5 ∨ hI σ 4 m = 6 ∨ hI σ 4 m = 7 ∨ hI σ 4 m = 8 ∨ hI σ 4 m = 9 ∨ hI σ 4 m = 10 ∨ hI σ 4 m = 11 ∨ hI σ 4 m = 12 ∨ 12 < hI σ 4 m) with hk | hk | hk | hk | hk | hk | hk | hk | hk | hk | hk | hk | hk | hk
  · refine j_tsw_in (tg := 76) dT_plainReading_9 (by constructor <;> omega) (by omega) (by omega) (by rw [hk]; rfl) (by decide) ?_
    refine j_aload_n (p2 := 77) dT_plainReading_76 rfl rfl ?_
    refine j_iload_n (p2 := 78) dT_plainReading_77 rfl rfl ?_
    refine j_callV (m' := mT_inputSum) (As := [_]) (p2 := 81) dT_plainReading_78 rfl ml_T_122 ok_mT_inputSum im_mT_inputSum se_mT_inputSum rfl rfl (Nat.le_of_ble_eq_true rfl) ly_34 rfl (Nat.le_of_ble_eq_true rfl) ⟨(Nat.le_of_ble_eq_true rfl), (Nat.le_of_ble_eq_true rfl)⟩ ?_
    refine cTf_inputSum hc hfl hm hr ?_
    refine j_dreturn dT_plainReading_81 rfl (by exact fin0 _ _ (by rw [gm, hk]; rfl) (Or.inl rfl) (fn_nnF hsum))
  · refine j_tsw_in (tg := 82) dT_plainReading_9 (by constructor <;> omega) (by omega) (by omega) (by rw [hk]; rfl) (by decide) ?_
    refine j_aload_n (p2 := 83) dT_plainReading_82 rfl rfl ?_
    refine j_iload_n (p2 := 84) dT_plainReading_83 rfl rfl ?_
    refine j_iconst (p2 := 85) dT_plainReading_84 rfl ?_
    refine j_callV (m' := mT_in) (As := [_, _]) (p2 := 88) dT_plainReading_85 rfl ml_T_134 ok_mT_in im_mT_in se_mT_in rfl rfl (Nat.le_of_ble_eq_true rfl) ly_34 rfl (Nat.le_of_ble_eq_true rfl) ⟨(Nat.le_of_ble_eq_true rfl), (Nat.le_of_ble_eq_true rfl)⟩ ?_
    refine cTf_in hc hm (by omega) hr ?_
    first
      | rw [← hA0]
      | rw [← hA1]
      | skip
    refine j_dneg (p2 := 89) dT_plainReading_88 rfl ?_
    refine j_dreturn dT_plainReading_89 rfl (by rw [hcF_neg ha.fn]; exact fin0 _ _ (by rw [gm, hk]; rfl) (Or.inl rfl) (fn_nnF (fn_negF ha.fn)))
  · refine j_tsw_in (tg := 259) dT_plainReading_9 (by constructor <;> omega) (by omega) (by omega) (by rw [hk]; rfl) (by decide) ?_
    refine j_aload_n (p2 := 260) dT_plainReading_259 rfl rfl ?_
    refine j_getR (p2 := 263) dT_plainReading_260 rfl fa_T_18 ly_34 rfl ?_
    refine j_iload_n (p2 := 264) dT_plainReading_263 rfl rfl ?_
    refine j_dald (p2 := 265) dT_plainReading_264 rfl ly_37 (by decide) (by omega) (by omega) ?_
    refine j_dreturn dT_plainReading_265 rfl (by have hk2 : hI σ 4 m = 2 ∨ hI σ 4 m = 3 ∨ hI σ 4 m = 13 := (by omega); exact fin0 _ (st m) (by rw [gm]; rcases hk2 with z | z | z <;> (rw [z]; rfl)) (Or.inl st1) (bd_nnF st2))
  · refine j_tsw_in (tg := 259) dT_plainReading_9 (by constructor <;> omega) (by omega) (by omega) (by rw [hk]; rfl) (by decide) ?_
    refine j_aload_n (p2 := 260) dT_plainReading_259 rfl rfl ?_
    refine j_getR (p2 := 263) dT_plainReading_260 rfl fa_T_18 ly_34 rfl ?_
    refine j_iload_n (p2 := 264) dT_plainReading_263 rfl rfl ?_
    refine j_dald (p2 := 265) dT_plainReading_264 rfl ly_37 (by decide) (by omega) (by omega) ?_
    refine j_dreturn dT_plainReading_265 rfl (by have hk2 : hI σ 4 m = 2 ∨ hI σ 4 m = 3 ∨ hI σ 4 m = 13 := (by omega); exact fin0 _ (st m) (by rw [gm]; rcases hk2 with z | z | z <;> (rw [z]; rfl)) (Or.inl st1) (bd_nnF st2))
  · refine j_tsw_in (tg := 90) dT_plainReading_9 (by constructor <;> omega) (by omega) (by omega) (by rw [hk]; rfl) (by decide) ?_
    refine j_aload_n (p2 := 91) dT_plainReading_90 rfl rfl ?_
    refine j_aload_n (p2 := 92) dT_plainReading_91 rfl rfl ?_
    refine j_iload_n (p2 := 93) dT_plainReading_92 rfl rfl ?_
    refine j_iconst (p2 := 94) dT_plainReading_93 rfl ?_
    refine j_callV (m' := mT_in) (As := [_, _]) (p2 := 97) dT_plainReading_94 rfl ml_T_134 ok_mT_in im_mT_in se_mT_in rfl rfl (Nat.le_of_ble_eq_true rfl) ly_34 rfl (Nat.le_of_ble_eq_true rfl) ⟨(Nat.le_of_ble_eq_true rfl), (Nat.le_of_ble_eq_true rfl)⟩ ?_
    refine cTf_in hc hm (by omega) hr ?_
    first
      | rw [← hA0]
      | rw [← hA1]
      | skip
    refine j_aload_n (p2 := 98) dT_plainReading_97 rfl rfl ?_
    refine j_iload_n (p2 := 99) dT_plainReading_98 rfl rfl ?_
    refine j_iconst (p2 := 100) dT_plainReading_99 rfl ?_
    refine j_callV (m' := mT_in) (As := [_, _]) (p2 := 103) dT_plainReading_100 rfl ml_T_134 ok_mT_in im_mT_in se_mT_in rfl rfl (Nat.le_of_ble_eq_true rfl) ly_34 rfl (Nat.le_of_ble_eq_true rfl) ⟨(Nat.le_of_ble_eq_true rfl), (Nat.le_of_ble_eq_true rfl)⟩ ?_
    refine cTf_in hc hm (by omega) hr ?_
    first
      | rw [← hA0]
      | rw [← hA1]
      | skip
    refine j_dmul (p2 := 104) dT_plainReading_103 rfl (muln A1 hb.fn).1 ?_
    refine j_callV (m' := mT_rounded) (As := [_]) (p2 := 107) dT_plainReading_104 rfl ml_T_74 ok_mT_rounded im_mT_rounded se_mT_rounded rfl rfl (Nat.le_of_ble_eq_true rfl) ly_34 rfl (Nat.le_of_ble_eq_true rfl) ⟨(Nat.le_of_ble_eq_true rfl), (Nat.le_of_ble_eq_true rfl)⟩ ?_
    refine cTf_rounded hfl (muln A1 hb.fn).1 ?_
    refine j_dreturn dT_plainReading_107 rfl (by rw [mulm A1 hb.fn]; exact fin0 _ _ (by rw [gm, hk]; rfl) (Or.inl rfl) (muln A1 hb.fn).2)
  · refine j_tsw_in (tg := 108) dT_plainReading_9 (by constructor <;> omega) (by omega) (by omega) (by rw [hk]; rfl) (by decide) ?_
    refine j_aload_n (p2 := 109) dT_plainReading_108 rfl rfl ?_
    refine j_iload_n (p2 := 110) dT_plainReading_109 rfl rfl ?_
    refine j_aload_n (p2 := 111) dT_plainReading_110 rfl rfl ?_
    refine j_iload_n (p2 := 112) dT_plainReading_111 rfl rfl ?_
    refine j_iconst (p2 := 113) dT_plainReading_112 rfl ?_
    refine j_callV (m' := mT_in) (As := [_, _]) (p2 := 116) dT_plainReading_113 rfl ml_T_134 ok_mT_in im_mT_in se_mT_in rfl rfl (Nat.le_of_ble_eq_true rfl) ly_34 rfl (Nat.le_of_ble_eq_true rfl) ⟨(Nat.le_of_ble_eq_true rfl), (Nat.le_of_ble_eq_true rfl)⟩ ?_
    refine cTf_in hc hm (by omega) hr ?_
    first
      | rw [← hA0]
      | rw [← hA1]
      | skip
    refine j_aload_n (p2 := 117) dT_plainReading_116 rfl rfl ?_
    refine j_iload_n (p2 := 118) dT_plainReading_117 rfl rfl ?_
    refine j_iconst (p2 := 119) dT_plainReading_118 rfl ?_
    refine j_callV (m' := mT_in) (As := [_, _]) (p2 := 122) dT_plainReading_119 rfl ml_T_134 ok_mT_in im_mT_in se_mT_in rfl rfl (Nat.le_of_ble_eq_true rfl) ly_34 rfl (Nat.le_of_ble_eq_true rfl) ⟨(Nat.le_of_ble_eq_true rfl), (Nat.le_of_ble_eq_true rfl)⟩ ?_
    refine cTf_in hc hm (by omega) hr ?_
    first
      | rw [← hA0]
      | rw [← hA1]
      | skip
    refine j_callV (m' := mT_quotient) (As := [_, _, _]) (p2 := 125) dT_plainReading_122 rfl ml_T_163 ok_mT_quotient im_mT_quotient se_mT_quotient rfl rfl (Nat.le_of_ble_eq_true rfl) ly_34 rfl (Nat.le_of_ble_eq_true rfl) ⟨(Nat.le_of_ble_eq_true rfl), (Nat.le_of_ble_eq_true rfl)⟩ ?_
    refine cTf_quotient ha hb hfl (by omega) hl (fun nq => ?_)
    refine j_dreturn dT_plainReading_125 rfl (by have e : gmE arF (Ecf σ fr se row st) r m = gquo arF A0 A1 := (by rw [gm, hk]; rfl); rw [e] at hQ; exact hQ _ (Or.inl rfl) nq)
  · refine j_tsw_in (tg := 126) dT_plainReading_9 (by constructor <;> omega) (by omega) (by omega) (by rw [hk]; rfl) (by decide) ?_
    refine j_aload_n (p2 := 127) dT_plainReading_126 rfl rfl ?_
    refine j_aload_n (p2 := 128) dT_plainReading_127 rfl rfl ?_
    refine j_iload_n (p2 := 129) dT_plainReading_128 rfl rfl ?_
    refine j_aload_n (p2 := 130) dT_plainReading_129 rfl rfl ?_
    refine j_iload_n (p2 := 131) dT_plainReading_130 rfl rfl ?_
    refine j_iconst (p2 := 132) dT_plainReading_131 rfl ?_
    refine j_callV (m' := mT_in) (As := [_, _]) (p2 := 135) dT_plainReading_132 rfl ml_T_134 ok_mT_in im_mT_in se_mT_in rfl rfl (Nat.le_of_ble_eq_true rfl) ly_34 rfl (Nat.le_of_ble_eq_true rfl) ⟨(Nat.le_of_ble_eq_true rfl), (Nat.le_of_ble_eq_true rfl)⟩ ?_
    refine cTf_in hc hm (by omega) hr ?_
    first
      | rw [← hA0]
      | rw [← hA1]
      | skip
    refine j_callV (m' := mT_notBelowZero) (As := [_, _]) (p2 := 138) dT_plainReading_135 rfl ml_T_167 ok_mT_notBelowZero im_mT_notBelowZero se_mT_notBelowZero rfl rfl (Nat.le_of_ble_eq_true rfl) ly_34 rfl (Nat.le_of_ble_eq_true rfl) ⟨(Nat.le_of_ble_eq_true rfl), (Nat.le_of_ble_eq_true rfl)⟩ ?_
    refine cTf_notBelowZero ha (by omega) hl (fun hlt => J.loc (lv' := []) trivial (rt1 hk hlt)) (fun hnl => J.loc (lv' := []) trivial (rt2 hk hnl))
    skip
  · refine j_tsw_in (tg := 145) dT_plainReading_9 (by constructor <;> omega) (by omega) (by omega) (by rw [hk]; rfl) (by decide) ?_
    refine j_aload_n (p2 := 146) dT_plainReading_145 rfl rfl ?_
    refine j_iload_n (p2 := 147) dT_plainReading_146 rfl rfl ?_
    refine j_aload_n (p2 := 148) dT_plainReading_147 rfl rfl ?_
    refine j_iload_n (p2 := 149) dT_plainReading_148 rfl rfl ?_
    refine j_iconst (p2 := 150) dT_plainReading_149 rfl ?_
    refine j_callV (m' := mT_in) (As := [_, _]) (p2 := 153) dT_plainReading_150 rfl ml_T_134 ok_mT_in im_mT_in se_mT_in rfl rfl (Nat.le_of_ble_eq_true rfl) ly_34 rfl (Nat.le_of_ble_eq_true rfl) ⟨(Nat.le_of_ble_eq_true rfl), (Nat.le_of_ble_eq_true rfl)⟩ ?_
    refine cTf_in hc hm (by omega) hr ?_
    first
      | rw [← hA0]
      | rw [← hA1]
      | skip
    refine j_callV (m' := mT_fromTable) (As := [_, _]) (p2 := 156) dT_plainReading_153 rfl ml_T_175 ok_mT_fromTable im_mT_fromTable se_mT_fromTable rfl rfl (Nat.le_of_ble_eq_true rfl) ly_34 rfl (Nat.le_of_ble_eq_true rfl) ⟨(Nat.le_of_ble_eq_true rfl), (Nat.le_of_ble_eq_true rfl)⟩ ?_
    refine cTf_fromTable (by omega) hfl ha (h7 hk) (fun nt => ?_)
    refine j_dreturn dT_plainReading_156 rfl (by exact fin0 _ _ (by rw [gm, hk, hA0]; rfl) (Or.inl rfl) nt)
  · refine j_tsw_in (tg := 157) dT_plainReading_9 (by constructor <;> omega) (by omega) (by omega) (by rw [hk]; rfl) (by decide) ?_
    refine j_aload_n (p2 := 158) dT_plainReading_157 rfl rfl ?_
    refine j_iload_n (p2 := 159) dT_plainReading_158 rfl rfl ?_
    refine j_iconst (p2 := 160) dT_plainReading_159 rfl ?_
    refine j_callV (m' := mT_in) (As := [_, _]) (p2 := 163) dT_plainReading_160 rfl ml_T_134 ok_mT_in im_mT_in se_mT_in rfl rfl (Nat.le_of_ble_eq_true rfl) ly_34 rfl (Nat.le_of_ble_eq_true rfl) ⟨(Nat.le_of_ble_eq_true rfl), (Nat.le_of_ble_eq_true rfl)⟩ ?_
    refine cTf_in hc hm (by omega) hr ?_
    first
      | rw [← hA0]
      | rw [← hA1]
      | skip
    refine j_aload_n (p2 := 164) dT_plainReading_163 rfl rfl ?_
    refine j_iload_n (p2 := 165) dT_plainReading_164 rfl rfl ?_
    refine j_iconst (p2 := 166) dT_plainReading_165 rfl ?_
    refine j_callV (m' := mT_in) (As := [_, _]) (p2 := 169) dT_plainReading_166 rfl ml_T_134 ok_mT_in im_mT_in se_mT_in rfl rfl (Nat.le_of_ble_eq_true rfl) ly_34 rfl (Nat.le_of_ble_eq_true rfl) ⟨(Nat.le_of_ble_eq_true rfl), (Nat.le_of_ble_eq_true rfl)⟩ ?_
    refine cTf_in hc hm (by omega) hr ?_
    first
      | rw [← hA0]
      | rw [← hA1]
      | skip
    refine j_dcmp_l_le (p1 := 170) (p2 := 173) (tg := 177) dT_plainReading_169 rfl dT_plainReading_170 rfl (by decide) (fun h169 => ?_) (fun h169 => ?_)
    · refine j_ldc2d (p2 := 180) dT_plainReading_177 rfl cw_T_178 ?_
      refine j_dreturn dT_plainReading_180 rfl (by have hcm := hcF_cmp (a := A0) (b := A1) (bd_nnF ha) hb.fn; rw [hcm] at h169; have e : gmE arF (Ecf σ fr se row st) r m = (if Acm arF A0 A1 = some .gt then Ac arF 1 else Ac arF 2, false) := (by rw [gm, hk]; rfl); first | exact fin0 _ _ (e.trans (by rw [if_pos h169])) (Or.inl (hcF_c 1 (by decide)).symm) (nn_cF 1 (by decide)) | exact fin0 _ _ (e.trans (by rw [if_neg h169])) (Or.inl (hcF_c 2 (by decide)).symm) (nn_cF 2 (by decide)))
    · refine j_dconst1 (p2 := 174) dT_plainReading_173 rfl ?_
      refine j_goto (p2 := 180) dT_plainReading_174 (by decide) ?_
      refine j_dreturn dT_plainReading_180 rfl (by have hcm := hcF_cmp (a := A0) (b := A1) (bd_nnF ha) hb.fn; rw [hcm] at h169; have e : gmE arF (Ecf σ fr se row st) r m = (if Acm arF A0 A1 = some .gt then Ac arF 1 else Ac arF 2, false) := (by rw [gm, hk]; rfl); first | exact fin0 _ _ (e.trans (by rw [if_pos h169])) (Or.inl (hcF_c 1 (by decide)).symm) (nn_cF 1 (by decide)) | exact fin0 _ _ (e.trans (by rw [if_neg h169])) (Or.inl (hcF_c 2 (by decide)).symm) (nn_cF 2 (by decide)))
  · refine j_tsw_in (tg := 181) dT_plainReading_9 (by constructor <;> omega) (by omega) (by omega) (by rw [hk]; rfl) (by decide) ?_
    refine j_aload_n (p2 := 182) dT_plainReading_181 rfl rfl ?_
    refine j_iload_n (p2 := 183) dT_plainReading_182 rfl rfl ?_
    refine j_iconst (p2 := 184) dT_plainReading_183 rfl ?_
    refine j_callV (m' := mT_in) (As := [_, _]) (p2 := 187) dT_plainReading_184 rfl ml_T_134 ok_mT_in im_mT_in se_mT_in rfl rfl (Nat.le_of_ble_eq_true rfl) ly_34 rfl (Nat.le_of_ble_eq_true rfl) ⟨(Nat.le_of_ble_eq_true rfl), (Nat.le_of_ble_eq_true rfl)⟩ ?_
    refine cTf_in hc hm (by omega) hr ?_
    first
      | rw [← hA0]
      | rw [← hA1]
      | skip
    refine j_dconst0 (p2 := 188) dT_plainReading_187 rfl ?_
    refine j_dcmp_l_le (p1 := 189) (p2 := 192) (tg := 201) dT_plainReading_188 rfl dT_plainReading_189 rfl (by decide) (fun h188 => ?_) (fun h188 => ?_)
    · refine j_aload_n (p2 := 202) dT_plainReading_201 rfl rfl ?_
      refine j_iload_n (p2 := 203) dT_plainReading_202 rfl rfl ?_
      refine j_iconst (p2 := 204) dT_plainReading_203 rfl ?_
      refine j_callV (m' := mT_in) (As := [_, _]) (p2 := 207) dT_plainReading_204 rfl ml_T_134 ok_mT_in im_mT_in se_mT_in rfl rfl (Nat.le_of_ble_eq_true rfl) ly_34 rfl (Nat.le_of_ble_eq_true rfl) ⟨(Nat.le_of_ble_eq_true rfl), (Nat.le_of_ble_eq_true rfl)⟩ ?_
      refine cTf_in hc hm (by omega) hr ?_
      first
        | rw [← hA0]
        | rw [← hA1]
        | skip
      refine j_dreturn dT_plainReading_207 rfl (by have e2 : ga arF fr (hI σ 10) r m 2 = gin arF fr (hI σ 10) r m 2 := if_neg (h9 hk); have hc2 := cmp0F (bd_nnF (hga 2 (by omega) (by omega))); rw [hc2, e2] at h188; have e : gmE arF (Ecf σ fr se row st) r m = (if Acm arF (gin arF fr (hI σ 10) r m 2) (Ac arF 0) = some .gt then A0 else A1, false) := (by rw [gm, hk]; rfl); first | exact fin0 _ _ (e.trans (by rw [if_pos h188])) (Or.inl rfl) (bd_nnF ha) | exact fin0 _ _ (e.trans (by rw [if_neg h188])) (Or.inl rfl) (bd_nnF hb))
    · refine j_aload_n (p2 := 193) dT_plainReading_192 rfl rfl ?_
      refine j_iload_n (p2 := 194) dT_plainReading_193 rfl rfl ?_
      refine j_iconst (p2 := 195) dT_plainReading_194 rfl ?_
      refine j_callV (m' := mT_in) (As := [_, _]) (p2 := 198) dT_plainReading_195 rfl ml_T_134 ok_mT_in im_mT_in se_mT_in rfl rfl (Nat.le_of_ble_eq_true rfl) ly_34 rfl (Nat.le_of_ble_eq_true rfl) ⟨(Nat.le_of_ble_eq_true rfl), (Nat.le_of_ble_eq_true rfl)⟩ ?_
      refine cTf_in hc hm (by omega) hr ?_
      first
        | rw [← hA0]
        | rw [← hA1]
        | skip
      refine j_goto (p2 := 207) dT_plainReading_198 (by decide) ?_
      refine j_dreturn dT_plainReading_207 rfl (by have e2 : ga arF fr (hI σ 10) r m 2 = gin arF fr (hI σ 10) r m 2 := if_neg (h9 hk); have hc2 := cmp0F (bd_nnF (hga 2 (by omega) (by omega))); rw [hc2, e2] at h188; have e : gmE arF (Ecf σ fr se row st) r m = (if Acm arF (gin arF fr (hI σ 10) r m 2) (Ac arF 0) = some .gt then A0 else A1, false) := (by rw [gm, hk]; rfl); first | exact fin0 _ _ (e.trans (by rw [if_pos h188])) (Or.inl rfl) (bd_nnF ha) | exact fin0 _ _ (e.trans (by rw [if_neg h188])) (Or.inl rfl) (bd_nnF hb))
  · refine j_tsw_in (tg := 208) dT_plainReading_9 (by constructor <;> omega) (by omega) (by omega) (by rw [hk]; rfl) (by decide) ?_
    refine j_aload_n (p2 := 209) dT_plainReading_208 rfl rfl ?_
    refine j_aload_n (p2 := 210) dT_plainReading_209 rfl rfl ?_
    refine j_iload_n (p2 := 211) dT_plainReading_210 rfl rfl ?_
    refine j_iconst (p2 := 212) dT_plainReading_211 rfl ?_
    refine j_callV (m' := mT_in) (As := [_, _]) (p2 := 215) dT_plainReading_212 rfl ml_T_134 ok_mT_in im_mT_in se_mT_in rfl rfl (Nat.le_of_ble_eq_true rfl) ly_34 rfl (Nat.le_of_ble_eq_true rfl) ⟨(Nat.le_of_ble_eq_true rfl), (Nat.le_of_ble_eq_true rfl)⟩ ?_
    refine cTf_in hc hm (by omega) hr ?_
    first
      | rw [← hA0]
      | rw [← hA1]
      | skip
    refine j_aload_n (p2 := 216) dT_plainReading_215 rfl rfl ?_
    refine j_getR (p2 := 219) dT_plainReading_216 rfl fa_T_15 ly_34 rfl ?_
    refine j_iload_n (p2 := 220) dT_plainReading_219 rfl rfl ?_
    refine j_dald (p2 := 221) dT_plainReading_220 rfl ly_36 (by decide) (by omega) (by omega) ?_
    refine j_dmul (p2 := 222) dT_plainReading_221 rfl (by rw [se1]; exact (muln (se m) (se2 (Or.inl hk)).fn).1) ?_
    refine j_callV (m' := mT_rounded) (As := [_]) (p2 := 225) dT_plainReading_222 rfl ml_T_74 ok_mT_rounded im_mT_rounded se_mT_rounded rfl rfl (Nat.le_of_ble_eq_true rfl) ly_34 rfl (Nat.le_of_ble_eq_true rfl) ⟨(Nat.le_of_ble_eq_true rfl), (Nat.le_of_ble_eq_true rfl)⟩ ?_
    rw [se1]
    refine cTf_rounded hfl (muln (se m) (se2 (Or.inl hk)).fn).1 ?_
    refine j_dreturn dT_plainReading_225 rfl (by rw [mulm (se m) (se2 (Or.inl hk)).fn]; exact fin0 _ _ (by rw [gm, hk]; rfl) (Or.inl rfl) (muln (se m) (se2 (Or.inl hk)).fn).2)
  · refine j_tsw_in (tg := 226) dT_plainReading_9 (by constructor <;> omega) (by omega) (by omega) (by rw [hk]; rfl) (by decide) ?_
    refine j_aload_n (p2 := 227) dT_plainReading_226 rfl rfl ?_
    refine j_getR (p2 := 230) dT_plainReading_227 rfl fa_T_21 ly_34 rfl ?_
    refine j_iload_n (p2 := 231) dT_plainReading_230 rfl rfl ?_
    refine j_bipush (v := 16) (p2 := 233) dT_plainReading_231 rfl rfl ?_
    refine j_imul (p2 := 234) dT_plainReading_233 rfl ?_
    refine j_aload_n (p2 := 235) dT_plainReading_234 rfl rfl ?_
    refine j_getR (p2 := 238) dT_plainReading_235 rfl fa_T_24 ly_34 rfl ?_
    refine j_iload_n (p2 := 239) dT_plainReading_238 rfl rfl ?_
    refine j_iald (p2 := 240) dT_plainReading_239 rfl ly_39 (by decide) (by omega) (by omega) ?_
    refine j_iadd (p2 := 241) dT_plainReading_240 rfl ?_
    refine j_dald (p2 := 242) dT_plainReading_241 rfl ly_38 (by decide) (by have := (hrw hk).1; omega) (by have := (hrw hk).1; omega) ?_
    refine j_dreturn dT_plainReading_242 rfl (by exact fin0 _ (row (16 * m)) (by rw [gm, hk]; rfl) (Or.inl (hrw hk).2.1) (bd_nnF (hrw hk).2.2))
  · refine j_tsw_in (tg := 243) dT_plainReading_9 (by constructor <;> omega) (by omega) (by omega) (by rw [hk]; rfl) (by decide) ?_
    refine j_aload_n (p2 := 244) dT_plainReading_243 rfl rfl ?_
    refine j_iload_n (p2 := 245) dT_plainReading_244 rfl rfl ?_
    refine j_iconst (p2 := 246) dT_plainReading_245 rfl ?_
    refine j_callV (m' := mT_in) (As := [_, _]) (p2 := 249) dT_plainReading_246 rfl ml_T_134 ok_mT_in im_mT_in se_mT_in rfl rfl (Nat.le_of_ble_eq_true rfl) ly_34 rfl (Nat.le_of_ble_eq_true rfl) ⟨(Nat.le_of_ble_eq_true rfl), (Nat.le_of_ble_eq_true rfl)⟩ ?_
    refine cTf_in hc hm (by omega) hr ?_
    first
      | rw [← hA0]
      | rw [← hA1]
      | skip
    refine j_aload_n (p2 := 250) dT_plainReading_249 rfl rfl ?_
    refine j_getR (p2 := 253) dT_plainReading_250 rfl fa_T_15 ly_34 rfl ?_
    refine j_iload_n (p2 := 254) dT_plainReading_253 rfl rfl ?_
    refine j_dald (p2 := 255) dT_plainReading_254 rfl ly_36 (by decide) (by omega) (by omega) ?_
    refine j_callS (m' := mT_limited) (As := [_, _]) (p2 := 258) dT_plainReading_255 rfl ml_T_180 ok_mT_limited sm_mT_limited rfl rfl (Nat.le_of_ble_eq_true rfl) (Nat.le_of_ble_eq_true rfl) ⟨(Nat.le_of_ble_eq_true rfl), (Nat.le_of_ble_eq_true rfl)⟩ ?_
    rw [se1]
    refine cT_limitedF ha.fn (se2 (Or.inr hk)).fn ?_
    refine j_dreturn dT_plainReading_258 rfl (by exact fin0 _ (glim arF A0 (se m)) (by rw [gm, hk]; rfl) (Or.inl rfl) (fn_nnF (glim_fnF ha.fn (se2 (Or.inr hk)).fn)))
  · refine j_tsw_out (tg := 259) dT_plainReading_9 (by constructor <;> omega) (by omega) (by decide) ?_
    refine j_aload_n (p2 := 260) dT_plainReading_259 rfl rfl ?_
    refine j_getR (p2 := 263) dT_plainReading_260 rfl fa_T_18 ly_34 rfl ?_
    refine j_iload_n (p2 := 264) dT_plainReading_263 rfl rfl ?_
    refine j_dald (p2 := 265) dT_plainReading_264 rfl ly_37 (by decide) (by omega) (by omega) ?_
    refine j_dreturn dT_plainReading_265 rfl (by have hk2 : hI σ 4 m = 2 ∨ hI σ 4 m = 3 ∨ hI σ 4 m = 13 := (by omega); exact fin0 _ (st m) (by rw [gm]; rcases hk2 with z | z | z <;> (rw [z]; rfl)) (Or.inl st1) (bd_nnF st2))
theorem cTt_plainReading {fr : Int → Int} {se row st r : Int → UInt64} {N : Nat} {m : Int} (hc : CtI σ fr N) (hfl : hI σ 56 3 = 0) (hm : 0 ≤ m ∧ m < N) (hr : Rdt σ r N) (hM : Mot σ fr se row st m) (hl : inR (hI σ 55 m))
    (hQ : ∀ v, EqvD v (gmE arD (Ect σ fr se row st) r m).1 → vf_n64 (gmE arD (Ect σ fr se row st) r m).1 → Q (some (vD v)) (wI σ 55 (lmp (hI σ 55) m (hI σ 54 1) (gmE arD (Ect σ fr se row st) r m).2))) : Sp mT_plainReading [vR 56, vI m] σ Q := by
  obtain ⟨⟨se1, se2⟩, ⟨st1, st2⟩, hrw, h9, h7⟩ := hM
  have hkd := hc.2.2.1 m hm.1 hm.2
  have hN2 := hc.2.1
  have hb2 : ∀ k : Int, 0 ≤ k → k < N → BdD (r k) := fun k x y => (hr k x y).2
  have hga : ∀ i : Int, 0 ≤ i → i < 6 → BdD (ga arD fr (hI σ 10) r m i) := fun i x y => ga_bdD (hc.2.2.2 m i hm.1 hm.2 x y).2.1 hb2
  have ha := hga 0 (by omega) (by omega)
  have hb := hga 1 (by omega) (by omega)
  have gm : gmE arD (Ect σ fr se row st) r m = gmk arD (hI σ 4 m) (ga arD fr (hI σ 10) r m 0) (ga arD fr (hI σ 10) r m 1) (gin arD fr (hI σ 10) r m 2) (se m) (gsum arD fr (hI σ 10) r m 6).1 (gtab arD ((hD σ 12)) ((hD σ 13)) (hI σ 11 m) m (ga arD fr (hI σ 10) r m 0)) (row (16 * m)) (st m) := rfl
  obtain ⟨A0, hA0⟩ : ∃ A0, A0 = ga arD fr (hI σ 10) r m 0 := ⟨_, rfl⟩
  obtain ⟨A1, hA1⟩ : ∃ A1, A1 = ga arD fr (hI σ 10) r m 1 := ⟨_, rfl⟩
  have fin0 : ∀ (v : UInt64) (x : UInt64), gmE arD (Ect σ fr se row st) r m = (x, false) → EqvD v x → vf_n64 x → Q (some (vD v)) σ := fun v x e h1 h2 => by
    have := hQ v
    rw [e, lmp_f, wI_id] at this
    exact this h1 h2
  have fin1 : ∀ (v : UInt64) (x : UInt64), gmE arD (Ect σ fr se row st) r m = (x, true) → EqvD v x → vf_n64 x → Q (some (vD v)) (wI σ 55 (lmp (hI σ 55) m (hI σ 54 1) true)) := fun v x e h1 h2 => by
    have := hQ v
    rw [e] at this
    exact this h1 h2
  have hsum := (gsum_fnD (tu := hI σ 10) (fun i a b => (hc.2.2.2 m i hm.1 hm.2 a b).2.1) hb2 6 (by omega)).2
  rw [← hA0] at gm ha
  rw [← hA1] at gm hb
  have mulm := fun (s : UInt64) (hs : FnD s) => hcD_mul (a := A0) (b := s) ha.fn hs
  have muln : ∀ s : UInt64, FnD s → vf_n64 (FP.dmul (cvD A0) (cvD s)) ∧ vf_n64 (Amul arD A0 s) := fun s hs => ⟨nn_mul (cvD_fn ha.fn) (cvD_fn hs), nn_mul ha.fn hs⟩
  have rt1 : hI σ 4 m = 6 → Acm arD A0 (Ac arD 0) = some .lt → J mT_plainReading 138 [] [vD FP.dconst0, vR 56] (wI σ 55 (lmp (hI σ 55) m (hI σ 54 1) true)) Q := fun hk hlt => by
    refine j_callS (m' := mN_root) (As := [_]) (p2 := 141) dT_plainReading_138 rfl ml_T_170 ok_mN_root sm_mN_root rfl rfl (Nat.le_of_ble_eq_true rfl) (Nat.le_of_ble_eq_true rfl) ⟨(Nat.le_of_ble_eq_true rfl), (Nat.le_of_ble_eq_true rfl)⟩ ?_
    refine cN_root (Or.inl (by decide)) ?_
    rw [rootC_0]
    refine j_callV (m' := mT_rounded) (As := [_]) (p2 := 144) dT_plainReading_141 rfl ml_T_74 ok_mT_rounded im_mT_rounded se_mT_rounded rfl rfl (Nat.le_of_ble_eq_true rfl) ly_56 rfl (Nat.le_of_ble_eq_true rfl) ⟨(Nat.le_of_ble_eq_true rfl), (Nat.le_of_ble_eq_true rfl)⟩ ?_
    refine cTt_rounded hfl nn_d0 ?_
    rw [rnd0]
    refine j_dreturn dT_plainReading_144 rfl (by exact fin1 _ (Ac arD 0) (by rw [gm, hk]; exact if_pos hlt) (Or.inl (hcD_c 0 (by decide)).symm) (nn_cD 0 (by decide)))
  have rt2 : hI σ 4 m = 6 → ¬ Acm arD A0 (Ac arD 0) = some .lt → J mT_plainReading 138 [] [vD (cvD A0), vR 56] σ Q := fun hk hnl => by
    obtain ⟨q1, q2, q3, q4⟩ := rtD_ok ha hnl
    refine j_callS (m' := mN_root) (As := [_]) (p2 := 141) dT_plainReading_138 rfl ml_T_170 ok_mN_root sm_mN_root rfl rfl (Nat.le_of_ble_eq_true rfl) (Nat.le_of_ble_eq_true rfl) ⟨(Nat.le_of_ble_eq_true rfl), (Nat.le_of_ble_eq_true rfl)⟩ ?_
    refine cN_root q4 ?_
    refine j_callV (m' := mT_rounded) (As := [_]) (p2 := 144) dT_plainReading_141 rfl ml_T_74 ok_mT_rounded im_mT_rounded se_mT_rounded rfl rfl (Nat.le_of_ble_eq_true rfl) ly_56 rfl (Nat.le_of_ble_eq_true rfl) ⟨(Nat.le_of_ble_eq_true rfl), (Nat.le_of_ble_eq_true rfl)⟩ ?_
    refine cTt_rounded hfl q2 ?_
    refine j_dreturn dT_plainReading_144 rfl (by exact fin0 _ (Art arD A0) (by rw [gm, hk]; exact if_neg hnl) q1 q3)
  refine j_aload_n (p2 := 1) dT_plainReading_0 rfl rfl ?_
  refine j_getR (p2 := 4) dT_plainReading_1 rfl fa_T_49 ly_56 rfl ?_
  refine j_getR (p2 := 7) dT_plainReading_4 rfl fa_T_119 ly_3 rfl ?_
  refine j_iload_n (p2 := 8) dT_plainReading_7 rfl rfl ?_
  refine j_iald (p2 := 9) dT_plainReading_8 rfl ly_4 (by decide) (by omega) (by omega) ?_
  rcases (by omega : hI σ 4 m = 0 ∨ hI σ 4 m = 1 ∨ hI σ 4 m = 2 ∨ hI σ 4 m = 3 ∨ hI σ 4 m = 4 ∨ hI σ 4 m = 5 ∨ hI σ 4 m = 6 ∨ hI σ 4 m = 7 ∨ hI σ 4 m = 8 ∨ hI σ 4 m = 9 ∨ hI σ 4 m = 10 ∨ hI σ 4 m = 11 ∨ hI σ 4 m = 12 ∨ 12 < hI σ 4 m) with hk | hk | hk | hk | hk | hk | hk | hk | hk | hk | hk | hk | hk | hk
  · refine j_tsw_in (tg := 76) dT_plainReading_9 (by constructor <;> omega) (by omega) (by omega) (by rw [hk]; rfl) (by decide) ?_
    refine j_aload_n (p2 := 77) dT_plainReading_76 rfl rfl ?_
    refine j_iload_n (p2 := 78) dT_plainReading_77 rfl rfl ?_
    refine j_callV (m' := mT_inputSum) (As := [_]) (p2 := 81) dT_plainReading_78 rfl ml_T_122 ok_mT_inputSum im_mT_inputSum se_mT_inputSum rfl rfl (Nat.le_of_ble_eq_true rfl) ly_56 rfl (Nat.le_of_ble_eq_true rfl) ⟨(Nat.le_of_ble_eq_true rfl), (Nat.le_of_ble_eq_true rfl)⟩ ?_
    refine cTt_inputSum hc hfl hm hr ?_
    refine j_dreturn dT_plainReading_81 rfl (by exact fin0 _ _ (by rw [gm, hk]; rfl) (Or.inl rfl) (fn_nnD hsum))
  · refine j_tsw_in (tg := 82) dT_plainReading_9 (by constructor <;> omega) (by omega) (by omega) (by rw [hk]; rfl) (by decide) ?_
    refine j_aload_n (p2 := 83) dT_plainReading_82 rfl rfl ?_
    refine j_iload_n (p2 := 84) dT_plainReading_83 rfl rfl ?_
    refine j_iconst (p2 := 85) dT_plainReading_84 rfl ?_
    refine j_callV (m' := mT_in) (As := [_, _]) (p2 := 88) dT_plainReading_85 rfl ml_T_134 ok_mT_in im_mT_in se_mT_in rfl rfl (Nat.le_of_ble_eq_true rfl) ly_56 rfl (Nat.le_of_ble_eq_true rfl) ⟨(Nat.le_of_ble_eq_true rfl), (Nat.le_of_ble_eq_true rfl)⟩ ?_
    refine cTt_in hc hm (by omega) hr ?_
    first
      | rw [← hA0]
      | rw [← hA1]
      | skip
    refine j_dneg (p2 := 89) dT_plainReading_88 rfl ?_
    refine j_dreturn dT_plainReading_89 rfl (by rw [hcD_neg ha.fn]; exact fin0 _ _ (by rw [gm, hk]; rfl) (Or.inl rfl) (fn_nnD (fn_negD ha.fn)))
  · refine j_tsw_in (tg := 259) dT_plainReading_9 (by constructor <;> omega) (by omega) (by omega) (by rw [hk]; rfl) (by decide) ?_
    refine j_aload_n (p2 := 260) dT_plainReading_259 rfl rfl ?_
    refine j_getR (p2 := 263) dT_plainReading_260 rfl fa_T_18 ly_56 rfl ?_
    refine j_iload_n (p2 := 264) dT_plainReading_263 rfl rfl ?_
    refine j_dald (p2 := 265) dT_plainReading_264 rfl ly_59 (by decide) (by omega) (by omega) ?_
    refine j_dreturn dT_plainReading_265 rfl (by have hk2 : hI σ 4 m = 2 ∨ hI σ 4 m = 3 ∨ hI σ 4 m = 13 := (by omega); exact fin0 _ (st m) (by rw [gm]; rcases hk2 with z | z | z <;> (rw [z]; rfl)) (Or.inl st1) (bd_nnD st2))
  · refine j_tsw_in (tg := 259) dT_plainReading_9 (by constructor <;> omega) (by omega) (by omega) (by rw [hk]; rfl) (by decide) ?_
    refine j_aload_n (p2 := 260) dT_plainReading_259 rfl rfl ?_
    refine j_getR (p2 := 263) dT_plainReading_260 rfl fa_T_18 ly_56 rfl ?_
    refine j_iload_n (p2 := 264) dT_plainReading_263 rfl rfl ?_
    refine j_dald (p2 := 265) dT_plainReading_264 rfl ly_59 (by decide) (by omega) (by omega) ?_
    refine j_dreturn dT_plainReading_265 rfl (by have hk2 : hI σ 4 m = 2 ∨ hI σ 4 m = 3 ∨ hI σ 4 m = 13 := (by omega); exact fin0 _ (st m) (by rw [gm]; rcases hk2 with z | z | z <;> (rw [z]; rfl)) (Or.inl st1) (bd_nnD st2))
  · refine j_tsw_in (tg := 90) dT_plainReading_9 (by constructor <;> omega) (by omega) (by omega) (by rw [hk]; rfl) (by decide) ?_
    refine j_aload_n (p2 := 91) dT_plainReading_90 rfl rfl ?_
    refine j_aload_n (p2 := 92) dT_plainReading_91 rfl rfl ?_
    refine j_iload_n (p2 := 93) dT_plainReading_92 rfl rfl ?_
    refine j_iconst (p2 := 94) dT_plainReading_93 rfl ?_
    refine j_callV (m' := mT_in) (As := [_, _]) (p2 := 97) dT_plainReading_94 rfl ml_T_134 ok_mT_in im_mT_in se_mT_in rfl rfl (Nat.le_of_ble_eq_true rfl) ly_56 rfl (Nat.le_of_ble_eq_true rfl) ⟨(Nat.le_of_ble_eq_true rfl), (Nat.le_of_ble_eq_true rfl)⟩ ?_
    refine cTt_in hc hm (by omega) hr ?_
    first
      | rw [← hA0]
      | rw [← hA1]
      | skip
    refine j_aload_n (p2 := 98) dT_plainReading_97 rfl rfl ?_
    refine j_iload_n (p2 := 99) dT_plainReading_98 rfl rfl ?_
    refine j_iconst (p2 := 100) dT_plainReading_99 rfl ?_
    refine j_callV (m' := mT_in) (As := [_, _]) (p2 := 103) dT_plainReading_100 rfl ml_T_134 ok_mT_in im_mT_in se_mT_in rfl rfl (Nat.le_of_ble_eq_true rfl) ly_56 rfl (Nat.le_of_ble_eq_true rfl) ⟨(Nat.le_of_ble_eq_true rfl), (Nat.le_of_ble_eq_true rfl)⟩ ?_
    refine cTt_in hc hm (by omega) hr ?_
    first
      | rw [← hA0]
      | rw [← hA1]
      | skip
    refine j_dmul (p2 := 104) dT_plainReading_103 rfl (muln A1 hb.fn).1 ?_
    refine j_callV (m' := mT_rounded) (As := [_]) (p2 := 107) dT_plainReading_104 rfl ml_T_74 ok_mT_rounded im_mT_rounded se_mT_rounded rfl rfl (Nat.le_of_ble_eq_true rfl) ly_56 rfl (Nat.le_of_ble_eq_true rfl) ⟨(Nat.le_of_ble_eq_true rfl), (Nat.le_of_ble_eq_true rfl)⟩ ?_
    refine cTt_rounded hfl (muln A1 hb.fn).1 ?_
    refine j_dreturn dT_plainReading_107 rfl (by rw [mulm A1 hb.fn]; exact fin0 _ _ (by rw [gm, hk]; rfl) (Or.inl rfl) (muln A1 hb.fn).2)
  · refine j_tsw_in (tg := 108) dT_plainReading_9 (by constructor <;> omega) (by omega) (by omega) (by rw [hk]; rfl) (by decide) ?_
    refine j_aload_n (p2 := 109) dT_plainReading_108 rfl rfl ?_
    refine j_iload_n (p2 := 110) dT_plainReading_109 rfl rfl ?_
    refine j_aload_n (p2 := 111) dT_plainReading_110 rfl rfl ?_
    refine j_iload_n (p2 := 112) dT_plainReading_111 rfl rfl ?_
    refine j_iconst (p2 := 113) dT_plainReading_112 rfl ?_
    refine j_callV (m' := mT_in) (As := [_, _]) (p2 := 116) dT_plainReading_113 rfl ml_T_134 ok_mT_in im_mT_in se_mT_in rfl rfl (Nat.le_of_ble_eq_true rfl) ly_56 rfl (Nat.le_of_ble_eq_true rfl) ⟨(Nat.le_of_ble_eq_true rfl), (Nat.le_of_ble_eq_true rfl)⟩ ?_
    refine cTt_in hc hm (by omega) hr ?_
    first
      | rw [← hA0]
      | rw [← hA1]
      | skip
    refine j_aload_n (p2 := 117) dT_plainReading_116 rfl rfl ?_
    refine j_iload_n (p2 := 118) dT_plainReading_117 rfl rfl ?_
    refine j_iconst (p2 := 119) dT_plainReading_118 rfl ?_
    refine j_callV (m' := mT_in) (As := [_, _]) (p2 := 122) dT_plainReading_119 rfl ml_T_134 ok_mT_in im_mT_in se_mT_in rfl rfl (Nat.le_of_ble_eq_true rfl) ly_56 rfl (Nat.le_of_ble_eq_true rfl) ⟨(Nat.le_of_ble_eq_true rfl), (Nat.le_of_ble_eq_true rfl)⟩ ?_
    refine cTt_in hc hm (by omega) hr ?_
    first
      | rw [← hA0]
      | rw [← hA1]
      | skip
    refine j_callV (m' := mT_quotient) (As := [_, _, _]) (p2 := 125) dT_plainReading_122 rfl ml_T_163 ok_mT_quotient im_mT_quotient se_mT_quotient rfl rfl (Nat.le_of_ble_eq_true rfl) ly_56 rfl (Nat.le_of_ble_eq_true rfl) ⟨(Nat.le_of_ble_eq_true rfl), (Nat.le_of_ble_eq_true rfl)⟩ ?_
    refine cTt_quotient ha hb hfl (by omega) hl (fun nq => ?_)
    refine j_dreturn dT_plainReading_125 rfl (by have e : gmE arD (Ect σ fr se row st) r m = gquo arD A0 A1 := (by rw [gm, hk]; rfl); rw [e] at hQ; exact hQ _ (Or.inl rfl) nq)
  · refine j_tsw_in (tg := 126) dT_plainReading_9 (by constructor <;> omega) (by omega) (by omega) (by rw [hk]; rfl) (by decide) ?_
    refine j_aload_n (p2 := 127) dT_plainReading_126 rfl rfl ?_
    refine j_aload_n (p2 := 128) dT_plainReading_127 rfl rfl ?_
    refine j_iload_n (p2 := 129) dT_plainReading_128 rfl rfl ?_
    refine j_aload_n (p2 := 130) dT_plainReading_129 rfl rfl ?_
    refine j_iload_n (p2 := 131) dT_plainReading_130 rfl rfl ?_
    refine j_iconst (p2 := 132) dT_plainReading_131 rfl ?_
    refine j_callV (m' := mT_in) (As := [_, _]) (p2 := 135) dT_plainReading_132 rfl ml_T_134 ok_mT_in im_mT_in se_mT_in rfl rfl (Nat.le_of_ble_eq_true rfl) ly_56 rfl (Nat.le_of_ble_eq_true rfl) ⟨(Nat.le_of_ble_eq_true rfl), (Nat.le_of_ble_eq_true rfl)⟩ ?_
    refine cTt_in hc hm (by omega) hr ?_
    first
      | rw [← hA0]
      | rw [← hA1]
      | skip
    refine j_callV (m' := mT_notBelowZero) (As := [_, _]) (p2 := 138) dT_plainReading_135 rfl ml_T_167 ok_mT_notBelowZero im_mT_notBelowZero se_mT_notBelowZero rfl rfl (Nat.le_of_ble_eq_true rfl) ly_56 rfl (Nat.le_of_ble_eq_true rfl) ⟨(Nat.le_of_ble_eq_true rfl), (Nat.le_of_ble_eq_true rfl)⟩ ?_
    refine cTt_notBelowZero ha (by omega) hl (fun hlt => J.loc (lv' := []) trivial (rt1 hk hlt)) (fun hnl => J.loc (lv' := []) trivial (rt2 hk hnl))
    skip
  · refine j_tsw_in (tg := 145) dT_plainReading_9 (by constructor <;> omega) (by omega) (by omega) (by rw [hk]; rfl) (by decide) ?_
    refine j_aload_n (p2 := 146) dT_plainReading_145 rfl rfl ?_
    refine j_iload_n (p2 := 147) dT_plainReading_146 rfl rfl ?_
    refine j_aload_n (p2 := 148) dT_plainReading_147 rfl rfl ?_
    refine j_iload_n (p2 := 149) dT_plainReading_148 rfl rfl ?_
    refine j_iconst (p2 := 150) dT_plainReading_149 rfl ?_
    refine j_callV (m' := mT_in) (As := [_, _]) (p2 := 153) dT_plainReading_150 rfl ml_T_134 ok_mT_in im_mT_in se_mT_in rfl rfl (Nat.le_of_ble_eq_true rfl) ly_56 rfl (Nat.le_of_ble_eq_true rfl) ⟨(Nat.le_of_ble_eq_true rfl), (Nat.le_of_ble_eq_true rfl)⟩ ?_
    refine cTt_in hc hm (by omega) hr ?_
    first
      | rw [← hA0]
      | rw [← hA1]
      | skip
    refine j_callV (m' := mT_fromTable) (As := [_, _]) (p2 := 156) dT_plainReading_153 rfl ml_T_175 ok_mT_fromTable im_mT_fromTable se_mT_fromTable rfl rfl (Nat.le_of_ble_eq_true rfl) ly_56 rfl (Nat.le_of_ble_eq_true rfl) ⟨(Nat.le_of_ble_eq_true rfl), (Nat.le_of_ble_eq_true rfl)⟩ ?_
    refine cTt_fromTable (by omega) hfl ha (h7 hk) (fun nt => ?_)
    refine j_dreturn dT_plainReading_156 rfl (by exact fin0 _ _ (by rw [gm, hk, hA0]; rfl) (Or.inl rfl) nt)
  · refine j_tsw_in (tg := 157) dT_plainReading_9 (by constructor <;> omega) (by omega) (by omega) (by rw [hk]; rfl) (by decide) ?_
    refine j_aload_n (p2 := 158) dT_plainReading_157 rfl rfl ?_
    refine j_iload_n (p2 := 159) dT_plainReading_158 rfl rfl ?_
    refine j_iconst (p2 := 160) dT_plainReading_159 rfl ?_
    refine j_callV (m' := mT_in) (As := [_, _]) (p2 := 163) dT_plainReading_160 rfl ml_T_134 ok_mT_in im_mT_in se_mT_in rfl rfl (Nat.le_of_ble_eq_true rfl) ly_56 rfl (Nat.le_of_ble_eq_true rfl) ⟨(Nat.le_of_ble_eq_true rfl), (Nat.le_of_ble_eq_true rfl)⟩ ?_
    refine cTt_in hc hm (by omega) hr ?_
    first
      | rw [← hA0]
      | rw [← hA1]
      | skip
    refine j_aload_n (p2 := 164) dT_plainReading_163 rfl rfl ?_
    refine j_iload_n (p2 := 165) dT_plainReading_164 rfl rfl ?_
    refine j_iconst (p2 := 166) dT_plainReading_165 rfl ?_
    refine j_callV (m' := mT_in) (As := [_, _]) (p2 := 169) dT_plainReading_166 rfl ml_T_134 ok_mT_in im_mT_in se_mT_in rfl rfl (Nat.le_of_ble_eq_true rfl) ly_56 rfl (Nat.le_of_ble_eq_true rfl) ⟨(Nat.le_of_ble_eq_true rfl), (Nat.le_of_ble_eq_true rfl)⟩ ?_
    refine cTt_in hc hm (by omega) hr ?_
    first
      | rw [← hA0]
      | rw [← hA1]
      | skip
    refine j_dcmp_l_le (p1 := 170) (p2 := 173) (tg := 177) dT_plainReading_169 rfl dT_plainReading_170 rfl (by decide) (fun h169 => ?_) (fun h169 => ?_)
    · refine j_ldc2d (p2 := 180) dT_plainReading_177 rfl cw_T_178 ?_
      refine j_dreturn dT_plainReading_180 rfl (by have hcm := hcD_cmp (a := A0) (b := A1) (bd_nnD ha) hb.fn; rw [hcm] at h169; have e : gmE arD (Ect σ fr se row st) r m = (if Acm arD A0 A1 = some .gt then Ac arD 1 else Ac arD 2, false) := (by rw [gm, hk]; rfl); first | exact fin0 _ _ (e.trans (by rw [if_pos h169])) (Or.inl (hcD_c 1 (by decide)).symm) (nn_cD 1 (by decide)) | exact fin0 _ _ (e.trans (by rw [if_neg h169])) (Or.inl (hcD_c 2 (by decide)).symm) (nn_cD 2 (by decide)))
    · refine j_dconst1 (p2 := 174) dT_plainReading_173 rfl ?_
      refine j_goto (p2 := 180) dT_plainReading_174 (by decide) ?_
      refine j_dreturn dT_plainReading_180 rfl (by have hcm := hcD_cmp (a := A0) (b := A1) (bd_nnD ha) hb.fn; rw [hcm] at h169; have e : gmE arD (Ect σ fr se row st) r m = (if Acm arD A0 A1 = some .gt then Ac arD 1 else Ac arD 2, false) := (by rw [gm, hk]; rfl); first | exact fin0 _ _ (e.trans (by rw [if_pos h169])) (Or.inl (hcD_c 1 (by decide)).symm) (nn_cD 1 (by decide)) | exact fin0 _ _ (e.trans (by rw [if_neg h169])) (Or.inl (hcD_c 2 (by decide)).symm) (nn_cD 2 (by decide)))
  · refine j_tsw_in (tg := 181) dT_plainReading_9 (by constructor <;> omega) (by omega) (by omega) (by rw [hk]; rfl) (by decide) ?_
    refine j_aload_n (p2 := 182) dT_plainReading_181 rfl rfl ?_
    refine j_iload_n (p2 := 183) dT_plainReading_182 rfl rfl ?_
    refine j_iconst (p2 := 184) dT_plainReading_183 rfl ?_
    refine j_callV (m' := mT_in) (As := [_, _]) (p2 := 187) dT_plainReading_184 rfl ml_T_134 ok_mT_in im_mT_in se_mT_in rfl rfl (Nat.le_of_ble_eq_true rfl) ly_56 rfl (Nat.le_of_ble_eq_true rfl) ⟨(Nat.le_of_ble_eq_true rfl), (Nat.le_of_ble_eq_true rfl)⟩ ?_
    refine cTt_in hc hm (by omega) hr ?_
    first
      | rw [← hA0]
      | rw [← hA1]
      | skip
    refine j_dconst0 (p2 := 188) dT_plainReading_187 rfl ?_
    refine j_dcmp_l_le (p1 := 189) (p2 := 192) (tg := 201) dT_plainReading_188 rfl dT_plainReading_189 rfl (by decide) (fun h188 => ?_) (fun h188 => ?_)
    · refine j_aload_n (p2 := 202) dT_plainReading_201 rfl rfl ?_
      refine j_iload_n (p2 := 203) dT_plainReading_202 rfl rfl ?_
      refine j_iconst (p2 := 204) dT_plainReading_203 rfl ?_
      refine j_callV (m' := mT_in) (As := [_, _]) (p2 := 207) dT_plainReading_204 rfl ml_T_134 ok_mT_in im_mT_in se_mT_in rfl rfl (Nat.le_of_ble_eq_true rfl) ly_56 rfl (Nat.le_of_ble_eq_true rfl) ⟨(Nat.le_of_ble_eq_true rfl), (Nat.le_of_ble_eq_true rfl)⟩ ?_
      refine cTt_in hc hm (by omega) hr ?_
      first
        | rw [← hA0]
        | rw [← hA1]
        | skip
      refine j_dreturn dT_plainReading_207 rfl (by have e2 : ga arD fr (hI σ 10) r m 2 = gin arD fr (hI σ 10) r m 2 := if_neg (h9 hk); have hc2 := cmp0D (bd_nnD (hga 2 (by omega) (by omega))); rw [hc2, e2] at h188; have e : gmE arD (Ect σ fr se row st) r m = (if Acm arD (gin arD fr (hI σ 10) r m 2) (Ac arD 0) = some .gt then A0 else A1, false) := (by rw [gm, hk]; rfl); first | exact fin0 _ _ (e.trans (by rw [if_pos h188])) (Or.inl rfl) (bd_nnD ha) | exact fin0 _ _ (e.trans (by rw [if_neg h188])) (Or.inl rfl) (bd_nnD hb))
    · refine j_aload_n (p2 := 193) dT_plainReading_192 rfl rfl ?_
      refine j_iload_n (p2 := 194) dT_plainReading_193 rfl rfl ?_
      refine j_iconst (p2 := 195) dT_plainReading_194 rfl ?_
      refine j_callV (m' := mT_in) (As := [_, _]) (p2 := 198) dT_plainReading_195 rfl ml_T_134 ok_mT_in im_mT_in se_mT_in rfl rfl (Nat.le_of_ble_eq_true rfl) ly_56 rfl (Nat.le_of_ble_eq_true rfl) ⟨(Nat.le_of_ble_eq_true rfl), (Nat.le_of_ble_eq_true rfl)⟩ ?_
      refine cTt_in hc hm (by omega) hr ?_
      first
        | rw [← hA0]
        | rw [← hA1]
        | skip
      refine j_goto (p2 := 207) dT_plainReading_198 (by decide) ?_
      refine j_dreturn dT_plainReading_207 rfl (by have e2 : ga arD fr (hI σ 10) r m 2 = gin arD fr (hI σ 10) r m 2 := if_neg (h9 hk); have hc2 := cmp0D (bd_nnD (hga 2 (by omega) (by omega))); rw [hc2, e2] at h188; have e : gmE arD (Ect σ fr se row st) r m = (if Acm arD (gin arD fr (hI σ 10) r m 2) (Ac arD 0) = some .gt then A0 else A1, false) := (by rw [gm, hk]; rfl); first | exact fin0 _ _ (e.trans (by rw [if_pos h188])) (Or.inl rfl) (bd_nnD ha) | exact fin0 _ _ (e.trans (by rw [if_neg h188])) (Or.inl rfl) (bd_nnD hb))
  · refine j_tsw_in (tg := 208) dT_plainReading_9 (by constructor <;> omega) (by omega) (by omega) (by rw [hk]; rfl) (by decide) ?_
    refine j_aload_n (p2 := 209) dT_plainReading_208 rfl rfl ?_
    refine j_aload_n (p2 := 210) dT_plainReading_209 rfl rfl ?_
    refine j_iload_n (p2 := 211) dT_plainReading_210 rfl rfl ?_
    refine j_iconst (p2 := 212) dT_plainReading_211 rfl ?_
    refine j_callV (m' := mT_in) (As := [_, _]) (p2 := 215) dT_plainReading_212 rfl ml_T_134 ok_mT_in im_mT_in se_mT_in rfl rfl (Nat.le_of_ble_eq_true rfl) ly_56 rfl (Nat.le_of_ble_eq_true rfl) ⟨(Nat.le_of_ble_eq_true rfl), (Nat.le_of_ble_eq_true rfl)⟩ ?_
    refine cTt_in hc hm (by omega) hr ?_
    first
      | rw [← hA0]
      | rw [← hA1]
      | skip
    refine j_aload_n (p2 := 216) dT_plainReading_215 rfl rfl ?_
    refine j_getR (p2 := 219) dT_plainReading_216 rfl fa_T_15 ly_56 rfl ?_
    refine j_iload_n (p2 := 220) dT_plainReading_219 rfl rfl ?_
    refine j_dald (p2 := 221) dT_plainReading_220 rfl ly_58 (by decide) (by omega) (by omega) ?_
    refine j_dmul (p2 := 222) dT_plainReading_221 rfl (by rw [se1]; exact (muln (se m) (se2 (Or.inl hk)).fn).1) ?_
    refine j_callV (m' := mT_rounded) (As := [_]) (p2 := 225) dT_plainReading_222 rfl ml_T_74 ok_mT_rounded im_mT_rounded se_mT_rounded rfl rfl (Nat.le_of_ble_eq_true rfl) ly_56 rfl (Nat.le_of_ble_eq_true rfl) ⟨(Nat.le_of_ble_eq_true rfl), (Nat.le_of_ble_eq_true rfl)⟩ ?_
    rw [se1]
    refine cTt_rounded hfl (muln (se m) (se2 (Or.inl hk)).fn).1 ?_
    refine j_dreturn dT_plainReading_225 rfl (by rw [mulm (se m) (se2 (Or.inl hk)).fn]; exact fin0 _ _ (by rw [gm, hk]; rfl) (Or.inl rfl) (muln (se m) (se2 (Or.inl hk)).fn).2)
  · refine j_tsw_in (tg := 226) dT_plainReading_9 (by constructor <;> omega) (by omega) (by omega) (by rw [hk]; rfl) (by decide) ?_
    refine j_aload_n (p2 := 227) dT_plainReading_226 rfl rfl ?_
    refine j_getR (p2 := 230) dT_plainReading_227 rfl fa_T_21 ly_56 rfl ?_
    refine j_iload_n (p2 := 231) dT_plainReading_230 rfl rfl ?_
    refine j_bipush (v := 16) (p2 := 233) dT_plainReading_231 rfl rfl ?_
    refine j_imul (p2 := 234) dT_plainReading_233 rfl ?_
    refine j_aload_n (p2 := 235) dT_plainReading_234 rfl rfl ?_
    refine j_getR (p2 := 238) dT_plainReading_235 rfl fa_T_24 ly_56 rfl ?_
    refine j_iload_n (p2 := 239) dT_plainReading_238 rfl rfl ?_
    refine j_iald (p2 := 240) dT_plainReading_239 rfl ly_61 (by decide) (by omega) (by omega) ?_
    refine j_iadd (p2 := 241) dT_plainReading_240 rfl ?_
    refine j_dald (p2 := 242) dT_plainReading_241 rfl ly_60 (by decide) (by have := (hrw hk).1; omega) (by have := (hrw hk).1; omega) ?_
    refine j_dreturn dT_plainReading_242 rfl (by exact fin0 _ (row (16 * m)) (by rw [gm, hk]; rfl) (Or.inl (hrw hk).2.1) (bd_nnD (hrw hk).2.2))
  · refine j_tsw_in (tg := 243) dT_plainReading_9 (by constructor <;> omega) (by omega) (by omega) (by rw [hk]; rfl) (by decide) ?_
    refine j_aload_n (p2 := 244) dT_plainReading_243 rfl rfl ?_
    refine j_iload_n (p2 := 245) dT_plainReading_244 rfl rfl ?_
    refine j_iconst (p2 := 246) dT_plainReading_245 rfl ?_
    refine j_callV (m' := mT_in) (As := [_, _]) (p2 := 249) dT_plainReading_246 rfl ml_T_134 ok_mT_in im_mT_in se_mT_in rfl rfl (Nat.le_of_ble_eq_true rfl) ly_56 rfl (Nat.le_of_ble_eq_true rfl) ⟨(Nat.le_of_ble_eq_true rfl), (Nat.le_of_ble_eq_true rfl)⟩ ?_
    refine cTt_in hc hm (by omega) hr ?_
    first
      | rw [← hA0]
      | rw [← hA1]
      | skip
    refine j_aload_n (p2 := 250) dT_plainReading_249 rfl rfl ?_
    refine j_getR (p2 := 253) dT_plainReading_250 rfl fa_T_15 ly_56 rfl ?_
    refine j_iload_n (p2 := 254) dT_plainReading_253 rfl rfl ?_
    refine j_dald (p2 := 255) dT_plainReading_254 rfl ly_58 (by decide) (by omega) (by omega) ?_
    refine j_callS (m' := mT_limited) (As := [_, _]) (p2 := 258) dT_plainReading_255 rfl ml_T_180 ok_mT_limited sm_mT_limited rfl rfl (Nat.le_of_ble_eq_true rfl) (Nat.le_of_ble_eq_true rfl) ⟨(Nat.le_of_ble_eq_true rfl), (Nat.le_of_ble_eq_true rfl)⟩ ?_
    rw [se1]
    refine cT_limitedD ha.fn (se2 (Or.inr hk)).fn ?_
    refine j_dreturn dT_plainReading_258 rfl (by exact fin0 _ (glim arD A0 (se m)) (by rw [gm, hk]; rfl) (Or.inl rfl) (fn_nnD (glim_fnD ha.fn (se2 (Or.inr hk)).fn)))
  · refine j_tsw_out (tg := 259) dT_plainReading_9 (by constructor <;> omega) (by omega) (by decide) ?_
    refine j_aload_n (p2 := 260) dT_plainReading_259 rfl rfl ?_
    refine j_getR (p2 := 263) dT_plainReading_260 rfl fa_T_18 ly_56 rfl ?_
    refine j_iload_n (p2 := 264) dT_plainReading_263 rfl rfl ?_
    refine j_dald (p2 := 265) dT_plainReading_264 rfl ly_59 (by decide) (by omega) (by omega) ?_
    refine j_dreturn dT_plainReading_265 rfl (by have hk2 : hI σ 4 m = 2 ∨ hI σ 4 m = 3 ∨ hI σ 4 m = 13 := (by omega); exact fin0 _ (st m) (by rw [gm]; rcases hk2 with z | z | z <;> (rw [z]; rfl)) (Or.inl st1) (bd_nnD st2))
end TWC4
