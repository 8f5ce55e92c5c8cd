/-! ===== what a module reads ===== -/
section GM
variable {α : Type}
/-- by kind: a, b are IN 0 and IN 1 (0.0 without a cord), c IN 2, s the setting, sm THE SUM, tb the table's answer, rw the oldest of the row, st the state -/
def gmk (A : Ar α) (k : Int) (a b c s sm tb rw st : α) : α × Bool :=
  if k = 0 then (sm, false) else if k = 1 then (Aneg A a, false) else if k = 4 then (Amul A a b, false)
  else if k = 5 then (if Acm A b (Ac A 0) = some .eq then (if Acm A a (Ac A 0) = some .eq then (Ac A 0, false) else (if Acm A a (Ac A 0) = some .gt then Ac A 3 else Ac A 4, true)) else (Adiv A a b, false))
  else if k = 6 then (if Acm A a (Ac A 0) = some .lt then (Ac A 0, true) else (Art A a, false))
  else if k = 7 then (tb, false) else if k = 8 then (if Acm A a b = some .gt then Ac A 1 else Ac A 2, false)
  else if k = 9 then (if Acm A c (Ac A 0) = some .gt then a else b, false)
  else if k = 10 then (Amul A a s, false) else if k = 11 then (rw, false)
  else if k = 12 then (if Acm A a s = some .gt then s else if Acm A a (Aneg A s) = some .lt then Aneg A s else a, false) else (st, false)
/-- what module m reads, AFTER apart: kinds, settings, cords, points, readings, rows (oldest first), states -/
def gmade (A : Ar α) (kd : Int → Int) (se : Int → α) (fr tu : Int → Int) (xs ys : Int → α) (np : Int → Int) (r row st : Int → α) (m : Int) : α × Bool :=
  gmk A (kd m) (ga A fr tu r m 0) (ga A fr tu r m 1) (gin A fr tu r m 2) (se m) (gsum A fr tu r m 6).1 (gtab A xs ys (np m) m (ga A fr tu r m 0)) (row (16 * m)) (st m)
end GM
theorem ga_mg {fr tu : Int → Int} {r : Int → UInt64} {m i : Int} (h : ¬ fr (6 * m + i) = -1 → mg (r (fr (6 * m + i))) 1024) : mg (ga arD fr tu r m i) 1024 := by
  unfold ga
  by_cases h1 : fr (6 * m + i) = -1
  · rw [if_pos h1]; show mg FP.dconst0 1024; unfold mg; decide
  · rw [if_neg h1]; exact gin_mg (h h1)
theorem ga_mf {fr tu : Int → Int} {r : Int → UInt32} {m i : Int} (h : ¬ fr (6 * m + i) = -1 → mf (r (fr (6 * m + i))) 128) : mf (ga arF fr tu r m i) 128 := by
  unfold ga
  by_cases h1 : fr (6 * m + i) = -1
  · rw [if_pos h1]; show mf FP.fconst0 128; unfold mf; decide
  · rw [if_neg h1]; exact gin_mf (h h1)
theorem nonneg_bits {a : UInt64} (ha : mg a 1024) (h : ¬ FP.dcmp a FP.dconst0 = some .lt) : a.toNat % 2 ^ 63 = 0 ∨ (0 < a.toNat ∧ a.toNat < 2047 * 2 ^ 52) := by
  have hv := (ha.fin (by decide)).ne_nan
  have c1 : FP.Core.val64 (0 : UInt64) ≠ .nan := by decide +kernel
  have k2 : ¬ FP.Core.dkey a < FP.Core.dkey 0 := fun z => h ((FP.Core.dcmp_lt_key hv c1).mpr z)
  have e2 : FP.Core.dkey 0 = 0 := by decide +kernel
  rw [e2] at k2
  unfold FP.Core.dkey at k2
  unfold mg at ha
  have hlt : a.toNat < 2 ^ 64 := a.toNat_lt
  by_cases hs : 2 ^ 63 ≤ a.toNat
  · rw [if_pos hs] at k2
    left; omega
  · rcases Nat.eq_zero_or_pos a.toNat with z | z
    · left; rw [z]
    · right; exact ⟨z, by omega⟩
theorem nonneg_f2d {a : UInt32} (ha : mf a 128) (h : ¬ FP.fcmp a FP.fconst0 = some .lt) : (FP.f2d a).toNat % 2 ^ 63 = 0 ∨ (0 < (FP.f2d a).toNat ∧ (FP.f2d a).toNat < 2047 * 2 ^ 52) := by
  have hf := ha.fin (by decide)
  have hnn := f2d_nn (ha.nn (by decide))
  have hfd := FP.Core.f2d_fin hf
  rw [← fq_jf2d hf] at hfd
  have hfb := (FP.Core.fin_bits _).mp hfd
  have hv := hfd.ne_nan
  -- the sign is the float's
  obtain ⟨s, c, q, c', q', a1, a2, a3, a4, a5, a6⟩ := fq_f2d hf
  rw [← fq_jf2d hf] at a3
  have hsg := FP.Core.sgn_bits hv
  rw [a3] at hsg
  have hlt : (FP.f2d a).toNat < 2 ^ 64 := (FP.f2d a).toNat_lt
  cases s with
  | false =>
    have : ¬ 2 ^ 63 ≤ (FP.f2d a).toNat := of_decide_eq_false hsg.symm
    rcases Nat.eq_zero_or_pos (FP.f2d a).toNat with z | z
    · left; rw [z]
    · right; exact ⟨z, by omega⟩
  | true =>
    left
    have hc : c = 0 := by
      rcases Nat.eq_zero_or_pos c with z | z
      · exact z
      · exfalso
        apply h
        show FP.Core.fcmp a 0 = _
        rw [FP.Core.fcmp_lt]
        refine ⟨hf.ne_nan, by decide +kernel, ?_⟩
        rw [FP.Core.zval32_zero, a1]
        show -((FP.Core.inUnits c q FP.Core.b32.qmin : Nat) : Int) < 0
        have : 0 < FP.Core.inUnits c q FP.Core.b32.qmin := Nat.mul_pos z (Nat.two_pow_pos _)
        omega
    have hc' : c' = 0 := a5.mp hc
    exact (FP.Core.zero_bits2 _).mp ⟨true, q', by rw [a3, hc']⟩
theorem rootD_nn {a : UInt64} (h : vf_n64 a) : vf_n64 (rootD a) := by
  unfold rootD
  by_cases hz : FP.dcmp a FP.dconst0 = some .eq
  · rw [if_pos hz]; exact h
  · rw [if_neg hz]
    unfold rootP
    cases hv : FP.Core.val64 a with
    | nan => exact h
    | inf s => exact h
    | fin s c q =>
      apply vn64_of
      show FP.Core.dIsNaN (FP.Core.of64 _) = false
      rw [FP.Core.notNaN_iff, FP.Core.val64_of64 (FP.Core.round_fits FP.Core.good_b64 _)]
      exact FP.Core.roundRatio_ne_nan _ _ _ _ _
/-- what the reference needs of module m, and of the rows -/
abbrev WfR (σ : Hp) (m : Int) : Prop := (0 ≤ m ∧ m < 20) ∧ CdR σ m ∧ (0 ≤ hI σ 70 m ∧ hI σ 70 m < 14) ∧ (hI σ 70 m = 9 → ¬ hI σ 72 (6 * m + 2) = -1) ∧ (hI σ 70 m = 7 → TbR (hI σ 75 m) (hD σ 76) (hD σ 77) m) ∧ (hI σ 70 m = 10 ∨ hI σ 70 m = 12 → mg (hD σ 71 m) 1024) ∧ vf_n64 (hD σ 71 m) ∧ inR (hI σ 87 m)
abbrev RdR (σ : Hp) : Prop := (∀ k : Int, 0 ≤ k → k < 20 → mg (hD σ 82 k) 1024 ∧ mf (hF σ 83 k) 128 ∧ mg (hD σ 80 k) 1024 ∧ mf (hF σ 81 k) 128) ∧ ∀ k : Int, 0 ≤ k → k < 320 → mg (hD σ 84 k) 1024 ∧ mf (hF σ 85 k) 128
theorem va_ldcwF {p : Program} {l : Launch} {e : Env} {R : Room} {s : State} {m : MethodId} {args : Array Value} {below : List Frame} {meth : Method} {c : Code} {locs : List Loc} {cells slots : Nat} {T : State} (X : Stand p l e R s m args below meth c T locs cells slots) (hexec : p.tables.exec = Jvm.exec) {own : String} {index : Nat} {v : UInt32} (hown : s.vm.findClass own = some m.cls)
    (hconst : (Cond.constantFloat own index v).before args s = true) {g : JFrame} (hg : g.method = m) (hdg : decode c.code g.pc = .ok (.ldc_w index, 3)) :
    ∀ target, Steps p.tables e below (T.setTop { g with pc := g.pc + 3, stack := .float v :: g.stack }) target → Steps p.tables e below (T.setTop g) target := by
  obtain ⟨k, cf, hk, hcf, hcp⟩ := Cond.constantFloat_spec hown hconst
  obtain ⟨k', hk', he⟩ := X.warmed.alike.2.2 _ _ hk
  intro target hrest
  subst hg
  jvm_step X.here [hexec, hdg, ldc_w.wp_float (s := T) (f := g) X.here.top hk' (by rw [he]; exact hcf) hcp]
  exact hrest
theorem j_ldcwf {m : Mt} {pc p2 : Nat} {lv : List (Nat × PV)} {st : List PV} {σ : Hp} {Q : Option PV → Hp → Prop} {i : Nat} {v : UInt32} (hd : Dec m pc (.ldc_w i) 3) (hp : pc + 3 = p2) (hw : Cond.constantFloat (Mo m) i v ∈ tW) (k : J m p2 lv (vF v :: st) σ Q) : J m pc lv st σ Q := by
  subst hp
  refine J.go (fun p l e s mid args below meth c H locs ls ad cA D QQ C w => ?_) k
  intro T hT X
  obtain ⟨t, a, b⟩ := w T hT X
  exact ⟨t, va_ldcwF X C.1 C.2.2.2.2.2.1 (C.2.2.2.2.2.2.1 _ hw) (g := F0 mid pc ls (st.map (rv ad))) rfl (by rw [C.2.1]; exact hd) t a, b⟩
section REF5
variable {σ : Hp} {Q : Option PV → Hp → Prop}
theorem gmk5_D (a b c s sm tb rw st : UInt64) : gmk arD 5 a b c s sm tb rw st = (if FP.dcmp b FP.dconst0 = some .eq then (if FP.dcmp a FP.dconst0 = some .eq then (FP.dconst0, false) else (if FP.dcmp a FP.dconst0 = some .gt then csD 3 else csD 4, true)) else (FP.ddiv a b, false)) := rfl
theorem gmk6_D (a b c s sm tb rw st : UInt64) : gmk arD 6 a b c s sm tb rw st = (if FP.dcmp a FP.dconst0 = some .lt then (FP.dconst0, true) else (Art arD a, false)) := rfl
theorem gmk8_D (a b c s sm tb rw st : UInt64) : gmk arD 8 a b c s sm tb rw st = (if FP.dcmp a b = some .gt then FP.dconst1 else csD 2, false) := rfl
theorem gmk9_D (a b c s sm tb rw st : UInt64) : gmk arD 9 a b c s sm tb rw st = (if FP.dcmp c FP.dconst0 = some .gt then a else b, false) := rfl
theorem gmk12_D (a b c s sm tb rw st : UInt64) : gmk arD 12 a b c s sm tb rw st = (if FP.dcmp a s = some .gt then s else if FP.dcmp a (FP.dneg s) = some .lt then FP.dneg s else a, false) := rfl
theorem cM_made {m : Int} (hw : WfR σ m) (hr : RdR σ) (hQ : vf_n64 (gmade arD (hI σ 70) (hD σ 71) (hI σ 72) (hI σ 73) (hD σ 76) (hD σ 77) (hI σ 75) (hD σ 82) (hD σ 84) (hD σ 80) m).1 → Q (some (vD (gmade arD (hI σ 70) (hD σ 71) (hI σ 72) (hI σ 73) (hD σ 76) (hD σ 77) (hI σ 75) (hD σ 82) (hD σ 84) (hD σ 80) m).1)) (wI σ 87 (lmp (hI σ 87) m (hI σ 69 44) (gmade arD (hI σ 70) (hD σ 71) (hI σ 72) (hI σ 73) (hD σ 76) (hD σ 77) (hI σ 75) (hD σ 82) (hD σ 84) (hD σ 80) m).2))) : Sp mM_made [vR 69, vI m] σ Q := by
  obtain ⟨hm, hc, hk0, hk9, hk7, hk10, hsn, hlm⟩ := hw
  obtain ⟨hr1, hr2⟩ := hr
  have c0 := hc 0 (by omega) (by omega)
  have c1 := hc 1 (by omega) (by omega)
  have c2 := hc 2 (by omega) (by omega)
  unfold gmade at hQ
  obtain ⟨a, ha⟩ : ∃ a, a = ga arD (hI σ 72) (hI σ 73) (hD σ 82) m 0 := ⟨_, rfl⟩
  obtain ⟨b, hb⟩ : ∃ b, b = ga arD (hI σ 72) (hI σ 73) (hD σ 82) m 1 := ⟨_, rfl⟩
  have hrd : ∀ k : Int, 0 ≤ k → k < 20 → mg ((hD σ 82) k) 1024 := fun k h0 h1 => (hr1 k h0 h1).1
  have amg : mg a 1024 := by rw [ha]; exact ga_mg (fun h => hrd _ (by omega) (by omega))
  have bmg : mg b 1024 := by rw [hb]; exact ga_mg (fun h => hrd _ (by omega) (by omega))
  have smg := gsum_mg (fr := hI σ 72) (tu := hI σ 73) (r := (hD σ 82)) (m := m) (fun j hj h => by have := hc j (by omega) (by omega); exact hrd _ (by omega) (by omega)) 6 (by omega)
  rw [← ha, ← hb] at hQ
  have hst : ∀ k : Int, 0 ≤ k → k < 20 → mg ((hD σ 80) k) 1024 := fun k h0 h1 => (hr1 k h0 h1).2.2.1
  have hrw : ∀ k : Int, 0 ≤ k → k < 320 → mg ((hD σ 84) k) 1024 := fun k h0 h1 => (hr2 k h0 h1).1
  have hsm : hI σ 70 m = 10 ∨ hI σ 70 m = 12 → mg ((hD σ 71) m) 1024 := fun h => hk10 h
  have nnz : vf_n64 FP.dconst0 := vn64.mpr (by decide)
  have nn1 : vf_n64 FP.dconst1 := vn64.mpr (by decide)
  have nn1m : vf_n64 (csD 2) := vn64.mpr (by decide)
  have nn15 : vf_n64 (csD 3) := vn64.mpr (by decide)
  have nn15m : vf_n64 (csD 4) := vn64.mpr (by decide)
  have fin0 : ∀ x, gmk arD (hI σ 70 m) a b (gin arD (hI σ 72) (hI σ 73) (hD σ 82) m 2) ((hD σ 71) m) (gsum arD (hI σ 72) (hI σ 73) (hD σ 82) m 6).1 (gtab arD (hD σ 76) (hD σ 77) (hI σ 75 m) m a) ((hD σ 84) (16 * m)) ((hD σ 80) m) = (x, false) → vf_n64 x → Q (some (vD x)) σ := by
    intro x h hn
    rw [h] at hQ
    have := hQ hn
    rw [lmp_f, wI_id] at this; exact this
  have fin1 : ∀ x, gmk arD (hI σ 70 m) a b (gin arD (hI σ 72) (hI σ 73) (hD σ 82) m 2) ((hD σ 71) m) (gsum arD (hI σ 72) (hI σ 73) (hD σ 82) m 6).1 (gtab arD (hD σ 76) (hD σ 77) (hI σ 75 m) m a) ((hD σ 84) (16 * m)) ((hD σ 80) m) = (x, true) → vf_n64 x → Q (some (vD x)) (wI σ 87 (lmp (hI σ 87) m (hI σ 69 44) true)) := by
    intro x h hn
    rw [h] at hQ
    exact hQ hn
  have nnroot : vf_n64 (Art arD a) := rootD_nn (amg.nn (by decide))
  have at49 : J mM_made 49 [(0, vR 69), (1, vI m), (2, vD ((hD σ 71) m)), (4, vD a), (6, vD b)] [] σ Q := by
    refine j_aload_n (p2 := 50) dM_made_49 rfl rfl ?_
    refine j_getR (p2 := 53) dM_made_50 rfl fa_M_7 ly_69 rfl ?_
    refine j_iload_n (p2 := 54) dM_made_53 rfl rfl ?_
    refine j_iald (p2 := 55) dM_made_54 rfl ly_70 (by decide) (by omega) (by omega) ?_
    rcases (by omega : hI σ 70 m = 0 ∨ hI σ 70 m = 1 ∨ hI σ 70 m = 2 ∨ hI σ 70 m = 3 ∨ hI σ 70 m = 4 ∨ hI σ 70 m = 5 ∨ hI σ 70 m = 6 ∨ hI σ 70 m = 7 ∨ hI σ 70 m = 8 ∨ hI σ 70 m = 9 ∨ hI σ 70 m = 10 ∨ hI σ 70 m = 11 ∨ hI σ 70 m = 12 ∨ 12 < hI σ 70 m) with hk | hk | hk | hk | hk | hk | hk | hk | hk | hk | hk | hk | hk | hk
    · refine j_tsw_in (tg := 120) dM_made_55 (by constructor <;> omega) (by omega) (by omega) (by rw [hk]; rfl) (by decide) ?_
      refine j_aload_n (p2 := 121) dM_made_120 rfl rfl ?_
      refine j_iload_n (p2 := 122) dM_made_121 rfl rfl ?_
      refine j_callV (m' := mM_sum) (As := [_]) (p2 := 125) dM_made_122 rfl ml_M_264 ok_mM_sum im_mM_sum se_mM_sum rfl rfl (Nat.le_of_ble_eq_true rfl) ly_69 rfl (Nat.le_of_ble_eq_true rfl) ⟨(Nat.le_of_ble_eq_true rfl), (Nat.le_of_ble_eq_true rfl)⟩ ?_
      refine cM_sum hm hc hrd ?_
      refine j_dreturn dM_made_125 rfl (by (exact fin0 _ (by rw [hk]; rfl) (smg.nn (by decide))))
    · refine j_tsw_in (tg := 126) dM_made_55 (by constructor <;> omega) (by omega) (by omega) (by rw [hk]; rfl) (by decide) ?_
      refine j_dload (p2 := 128) dM_made_126 rfl rfl ?_
      refine j_dneg (p2 := 129) dM_made_128 rfl ?_
      refine j_dreturn dM_made_129 rfl (by (exact fin0 _ (by rw [hk]; rfl) ((mg_neg amg).nn (by decide))))
    · refine j_tsw_in (tg := 285) dM_made_55 (by constructor <;> omega) (by omega) (by omega) (by rw [hk]; rfl) (by decide) ?_
      refine j_aload_n (p2 := 286) dM_made_285 rfl rfl ?_
      refine j_getR (p2 := 289) dM_made_286 rfl fa_M_46 ly_69 rfl ?_
      refine j_iload_n (p2 := 290) dM_made_289 rfl rfl ?_
      refine j_dald (p2 := 291) dM_made_290 rfl ly_80 (by decide) (by omega) (by omega) ?_
      refine j_dreturn dM_made_291 rfl (by (first | exact fin0 _ (by rw [hk]; rfl) ((hst _ (by omega) (by omega)).nn (by decide)) | exact fin0 _ (by rw [(by omega : hI σ 70 m = 13)]; rfl) ((hst _ (by omega) (by omega)).nn (by decide))))
    · refine j_tsw_in (tg := 285) dM_made_55 (by constructor <;> omega) (by omega) (by omega) (by rw [hk]; rfl) (by decide) ?_
      refine j_aload_n (p2 := 286) dM_made_285 rfl rfl ?_
      refine j_getR (p2 := 289) dM_made_286 rfl fa_M_46 ly_69 rfl ?_
      refine j_iload_n (p2 := 290) dM_made_289 rfl rfl ?_
      refine j_dald (p2 := 291) dM_made_290 rfl ly_80 (by decide) (by omega) (by omega) ?_
      refine j_dreturn dM_made_291 rfl (by (first | exact fin0 _ (by rw [hk]; rfl) ((hst _ (by omega) (by omega)).nn (by decide)) | exact fin0 _ (by rw [(by omega : hI σ 70 m = 13)]; rfl) ((hst _ (by omega) (by omega)).nn (by decide))))
    · refine j_tsw_in (tg := 130) dM_made_55 (by constructor <;> omega) (by omega) (by omega) (by rw [hk]; rfl) (by decide) ?_
      refine j_dload (p2 := 132) dM_made_130 rfl rfl ?_
      refine j_dload (p2 := 134) dM_made_132 rfl rfl ?_
      refine j_dmul (p2 := 135) dM_made_134 rfl (by first | with_reducible exact nn_mul (amg.fin (by decide)) (bmg.fin (by decide)) | with_reducible exact nn_mul (amg.fin (by decide)) ((hsm (Or.inl hk)).fin (by decide)) | with_reducible exact nn_div (amg.fin (by decide)) (bmg.fin (by decide)) (by assumption) | with_reducible exact f2d_nn (amg.nn (by decide)) | exact nnroot) ?_
      refine j_dreturn dM_made_135 rfl (by (exact fin0 _ (by rw [hk]; rfl) (nn_mul (amg.fin (by decide)) (bmg.fin (by decide)))))
    · refine j_tsw_in (tg := 136) dM_made_55 (by constructor <;> omega) (by omega) (by omega) (by rw [hk]; rfl) (by decide) ?_
      refine j_dload (p2 := 138) dM_made_136 rfl rfl ?_
      refine j_dconst0 (p2 := 139) dM_made_138 rfl ?_
      refine j_dcmp_l_ne (p1 := 140) (p2 := 143) (tg := 174) dM_made_139 rfl dM_made_140 rfl (by decide) (fun h139 => ?_) (fun h139 => ?_)
      · refine j_dload (p2 := 176) dM_made_174 rfl rfl ?_
        refine j_dload (p2 := 178) dM_made_176 rfl rfl ?_
        refine j_ddiv (p2 := 179) dM_made_178 rfl (by first | with_reducible exact nn_mul (amg.fin (by decide)) (bmg.fin (by decide)) | with_reducible exact nn_mul (amg.fin (by decide)) ((hsm (Or.inl hk)).fin (by decide)) | with_reducible exact nn_div (amg.fin (by decide)) (bmg.fin (by decide)) (by assumption) | with_reducible exact f2d_nn (amg.nn (by decide)) | exact nnroot) ?_
        refine j_dreturn dM_made_179 rfl (by (exact fin0 _ (by rw [hk, gmk5_D, if_neg h139]) (nn_div (amg.fin (by decide)) (bmg.fin (by decide)) h139)))
      · refine j_dload (p2 := 145) dM_made_143 rfl rfl ?_
        refine j_dconst0 (p2 := 146) dM_made_145 rfl ?_
        refine j_dcmp_l_ne (p1 := 147) (p2 := 150) (tg := 152) dM_made_146 rfl dM_made_147 rfl (by decide) (fun h146 => ?_) (fun h146 => ?_)
        · refine j_aload_n (p2 := 153) dM_made_152 rfl rfl ?_
          refine j_iload_n (p2 := 154) dM_made_153 rfl rfl ?_
          refine j_callV (m' := mM_light) (As := [_]) (p2 := 157) dM_made_154 rfl ml_M_236 ok_mM_light im_mM_light se_mM_light rfl rfl (Nat.le_of_ble_eq_true rfl) ly_69 rfl (Nat.le_of_ble_eq_true rfl) ⟨(Nat.le_of_ble_eq_true rfl), (Nat.le_of_ble_eq_true rfl)⟩ ?_
          refine cM_light hm hlm ?_
          refine j_dload (p2 := 159) dM_made_157 rfl rfl ?_
          refine j_dconst0 (p2 := 160) dM_made_159 rfl ?_
          refine j_dcmp_l_le (p1 := 161) (p2 := 164) (tg := 170) dM_made_160 rfl dM_made_161 rfl (by decide) (fun h160 => ?_) (fun h160 => ?_)
          · refine j_ldc2d (p2 := 173) dM_made_170 rfl cw_M_202 ?_
            refine j_dreturn dM_made_173 rfl (by (first | exact fin1 _ (by rw [hk, gmk5_D, if_pos h139, if_neg h146, if_pos h160]; rfl) nn15 | exact fin1 _ (by rw [hk, gmk5_D, if_pos h139, if_neg h146, if_neg h160]; rfl) nn15m))
          · refine j_ldc2d (p2 := 167) dM_made_164 rfl cw_M_177 ?_
            refine j_goto (p2 := 173) dM_made_167 (by decide) ?_
            refine j_dreturn dM_made_173 rfl (by (first | exact fin1 _ (by rw [hk, gmk5_D, if_pos h139, if_neg h146, if_pos h160]; rfl) nn15 | exact fin1 _ (by rw [hk, gmk5_D, if_pos h139, if_neg h146, if_neg h160]; rfl) nn15m))
        · refine j_dconst0 (p2 := 151) dM_made_150 rfl ?_
          refine j_dreturn dM_made_151 rfl (by (exact fin0 _ (by rw [hk, gmk5_D, if_pos h139, if_pos h146]) nnz))
    · refine j_tsw_in (tg := 180) dM_made_55 (by constructor <;> omega) (by omega) (by omega) (by rw [hk]; rfl) (by decide) ?_
      refine j_dload (p2 := 182) dM_made_180 rfl rfl ?_
      refine j_dconst0 (p2 := 183) dM_made_182 rfl ?_
      refine j_dcmp_g_ge (p1 := 184) (p2 := 187) (tg := 194) dM_made_183 rfl dM_made_184 rfl (by decide) (fun h183 => ?_) (fun h183 => ?_)
      · refine j_dload (p2 := 196) dM_made_194 rfl rfl ?_
        refine j_callS (m' := mM_root) (As := [_]) (p2 := 199) dM_made_196 rfl ml_M_268 ok_mM_root sm_mM_root rfl rfl (Nat.le_of_ble_eq_true rfl) (Nat.le_of_ble_eq_true rfl) ⟨(Nat.le_of_ble_eq_true rfl), (Nat.le_of_ble_eq_true rfl)⟩ ?_
        refine cM_root (nonneg_bits amg (by assumption)) ?_
        refine j_dreturn dM_made_199 rfl (by (exact fin0 _ (by rw [hk, gmk6_D, if_neg h183]; rfl) nnroot))
      · refine j_aload_n (p2 := 188) dM_made_187 rfl rfl ?_
        refine j_iload_n (p2 := 189) dM_made_188 rfl rfl ?_
        refine j_callV (m' := mM_light) (As := [_]) (p2 := 192) dM_made_189 rfl ml_M_236 ok_mM_light im_mM_light se_mM_light rfl rfl (Nat.le_of_ble_eq_true rfl) ly_69 rfl (Nat.le_of_ble_eq_true rfl) ⟨(Nat.le_of_ble_eq_true rfl), (Nat.le_of_ble_eq_true rfl)⟩ ?_
        refine cM_light hm hlm ?_
        refine j_dconst0 (p2 := 193) dM_made_192 rfl ?_
        refine j_dreturn dM_made_193 rfl (by (exact fin1 _ (by rw [hk, gmk6_D, if_pos h183]) nnz))
    · refine j_tsw_in (tg := 200) dM_made_55 (by constructor <;> omega) (by omega) (by omega) (by rw [hk]; rfl) (by decide) ?_
      refine j_aload_n (p2 := 201) dM_made_200 rfl rfl ?_
      refine j_iload_n (p2 := 202) dM_made_201 rfl rfl ?_
      refine j_dload (p2 := 204) dM_made_202 rfl rfl ?_
      refine j_callV (m' := mM_table) (As := [_, _]) (p2 := 207) dM_made_204 rfl ml_M_272 ok_mM_table im_mM_table se_mM_table rfl rfl (Nat.le_of_ble_eq_true rfl) ly_69 rfl (Nat.le_of_ble_eq_true rfl) ⟨(Nat.le_of_ble_eq_true rfl), (Nat.le_of_ble_eq_true rfl)⟩ ?_
      refine cM_table hm (amg.mono (by decide)) (hk7 hk) (fun htab => ?_)
      refine j_dreturn dM_made_207 rfl (by (exact fin0 _ (by rw [hk]; rfl) htab))
    · refine j_tsw_in (tg := 208) dM_made_55 (by constructor <;> omega) (by omega) (by omega) (by rw [hk]; rfl) (by decide) ?_
      refine j_dload (p2 := 210) dM_made_208 rfl rfl ?_
      refine j_dload (p2 := 212) dM_made_210 rfl rfl ?_
      refine j_dcmp_l_le (p1 := 213) (p2 := 216) (tg := 220) dM_made_212 rfl dM_made_213 rfl (by decide) (fun h212 => ?_) (fun h212 => ?_)
      · refine j_ldc2d (p2 := 223) dM_made_220 rfl cw_M_169 ?_
        refine j_dreturn dM_made_223 rfl (by (first | exact fin0 _ (by rw [hk, gmk8_D, if_pos h212]) nn1 | exact fin0 _ (by rw [hk, gmk8_D, if_neg h212]; rfl) nn1m))
      · refine j_dconst1 (p2 := 217) dM_made_216 rfl ?_
        refine j_goto (p2 := 223) dM_made_217 (by decide) ?_
        refine j_dreturn dM_made_223 rfl (by (first | exact fin0 _ (by rw [hk, gmk8_D, if_pos h212]) nn1 | exact fin0 _ (by rw [hk, gmk8_D, if_neg h212]; rfl) nn1m))
    · refine j_tsw_in (tg := 224) dM_made_55 (by constructor <;> omega) (by omega) (by omega) (by rw [hk]; rfl) (by decide) ?_
      refine j_aload_n (p2 := 225) dM_made_224 rfl rfl ?_
      refine j_iload_n (p2 := 226) dM_made_225 rfl rfl ?_
      refine j_iconst (p2 := 227) dM_made_226 rfl ?_
      refine j_callV (m' := mM_input) (As := [_, _]) (p2 := 230) dM_made_227 rfl ml_M_242 ok_mM_input im_mM_input se_mM_input rfl rfl (Nat.le_of_ble_eq_true rfl) ly_69 rfl (Nat.le_of_ble_eq_true rfl) ⟨(Nat.le_of_ble_eq_true rfl), (Nat.le_of_ble_eq_true rfl)⟩ ?_
      refine cM_input hm (by omega) (by have := hk9 hk; omega) (by constructor <;> omega) ?_
      refine j_dconst0 (p2 := 231) dM_made_230 rfl ?_
      refine j_dcmp_l_le (p1 := 232) (p2 := 235) (tg := 240) dM_made_231 rfl dM_made_232 rfl (by decide) (fun h231 => ?_) (fun h231 => ?_)
      · refine j_dload (p2 := 242) dM_made_240 rfl rfl ?_
        refine j_dreturn dM_made_242 rfl (by (first | exact fin0 _ (by rw [hk, gmk9_D, if_pos h231]) (amg.nn (by decide)) | exact fin0 _ (by rw [hk, gmk9_D, if_neg h231]) (bmg.nn (by decide))))
      · refine j_dload (p2 := 237) dM_made_235 rfl rfl ?_
        refine j_goto (p2 := 242) dM_made_237 (by decide) ?_
        refine j_dreturn dM_made_242 rfl (by (first | exact fin0 _ (by rw [hk, gmk9_D, if_pos h231]) (amg.nn (by decide)) | exact fin0 _ (by rw [hk, gmk9_D, if_neg h231]) (bmg.nn (by decide))))
    · refine j_tsw_in (tg := 243) dM_made_55 (by constructor <;> omega) (by omega) (by omega) (by rw [hk]; rfl) (by decide) ?_
      refine j_dload (p2 := 245) dM_made_243 rfl rfl ?_
      refine j_dload_n (p2 := 246) dM_made_245 rfl rfl ?_
      refine j_dmul (p2 := 247) dM_made_246 rfl (by first | with_reducible exact nn_mul (amg.fin (by decide)) (bmg.fin (by decide)) | with_reducible exact nn_mul (amg.fin (by decide)) ((hsm (Or.inl hk)).fin (by decide)) | with_reducible exact nn_div (amg.fin (by decide)) (bmg.fin (by decide)) (by assumption) | with_reducible exact f2d_nn (amg.nn (by decide)) | exact nnroot) ?_
      refine j_dreturn dM_made_247 rfl (by (exact fin0 _ (by rw [hk]; rfl) (nn_mul (amg.fin (by decide)) ((hsm (Or.inl hk)).fin (by decide)))))
    · refine j_tsw_in (tg := 248) dM_made_55 (by constructor <;> omega) (by omega) (by omega) (by rw [hk]; rfl) (by decide) ?_
      refine j_aload_n (p2 := 249) dM_made_248 rfl rfl ?_
      refine j_getR (p2 := 252) dM_made_249 rfl fa_M_59 ly_69 rfl ?_
      refine j_bipush (v := 16) (p2 := 254) dM_made_252 rfl rfl ?_
      refine j_iload_n (p2 := 255) dM_made_254 rfl rfl ?_
      refine j_imul (p2 := 256) dM_made_255 rfl ?_
      refine j_dald (p2 := 257) dM_made_256 rfl ly_84 (by decide) (by omega) (by omega) ?_
      refine j_dreturn dM_made_257 rfl (by (exact fin0 _ (by rw [hk]; rfl) ((hrw _ (by omega) (by omega)).nn (by decide))))
    · refine j_tsw_in (tg := 258) dM_made_55 (by constructor <;> omega) (by omega) (by omega) (by rw [hk]; rfl) (by decide) ?_
      refine j_dload (p2 := 260) dM_made_258 rfl rfl ?_
      refine j_dload_n (p2 := 261) dM_made_260 rfl rfl ?_
      refine j_dcmp_l_le (p1 := 262) (p2 := 265) (tg := 269) dM_made_261 rfl dM_made_262 rfl (by decide) (fun h261 => ?_) (fun h261 => ?_)
      · refine j_dload (p2 := 271) dM_made_269 rfl rfl ?_
        refine j_dload_n (p2 := 272) dM_made_271 rfl rfl ?_
        refine j_dneg (p2 := 273) dM_made_272 rfl ?_
        refine j_dcmp_g_ge (p1 := 274) (p2 := 277) (tg := 282) dM_made_273 rfl dM_made_274 rfl (by decide) (fun h273 => ?_) (fun h273 => ?_)
        · refine j_dload (p2 := 284) dM_made_282 rfl rfl ?_
          refine j_dreturn dM_made_284 rfl (by (first | exact fin0 _ (by rw [hk, gmk12_D, if_pos h261]) ((hsm (Or.inr hk)).nn (by decide)) | exact fin0 _ (by rw [hk, gmk12_D, if_neg h261, if_pos h273]) ((mg_neg (hsm (Or.inr hk))).nn (by decide)) | exact fin0 _ (by rw [hk, gmk12_D, if_neg h261, if_neg h273]) (amg.nn (by decide))))
        · refine j_dload_n (p2 := 278) dM_made_277 rfl rfl ?_
          refine j_dneg (p2 := 279) dM_made_278 rfl ?_
          refine j_goto (p2 := 284) dM_made_279 (by decide) ?_
          refine j_dreturn dM_made_284 rfl (by (first | exact fin0 _ (by rw [hk, gmk12_D, if_pos h261]) ((hsm (Or.inr hk)).nn (by decide)) | exact fin0 _ (by rw [hk, gmk12_D, if_neg h261, if_pos h273]) ((mg_neg (hsm (Or.inr hk))).nn (by decide)) | exact fin0 _ (by rw [hk, gmk12_D, if_neg h261, if_neg h273]) (amg.nn (by decide))))
      · refine j_dload_n (p2 := 266) dM_made_265 rfl rfl ?_
        refine j_goto (p2 := 284) dM_made_266 (by decide) ?_
        refine j_dreturn dM_made_284 rfl (by (first | exact fin0 _ (by rw [hk, gmk12_D, if_pos h261]) ((hsm (Or.inr hk)).nn (by decide)) | exact fin0 _ (by rw [hk, gmk12_D, if_neg h261, if_pos h273]) ((mg_neg (hsm (Or.inr hk))).nn (by decide)) | exact fin0 _ (by rw [hk, gmk12_D, if_neg h261, if_neg h273]) (amg.nn (by decide))))
    · refine j_tsw_out (tg := 285) dM_made_55 (by constructor <;> omega) (by omega) (by decide) ?_
      refine j_aload_n (p2 := 286) dM_made_285 rfl rfl ?_
      refine j_getR (p2 := 289) dM_made_286 rfl fa_M_46 ly_69 rfl ?_
      refine j_iload_n (p2 := 290) dM_made_289 rfl rfl ?_
      refine j_dald (p2 := 291) dM_made_290 rfl ly_80 (by decide) (by omega) (by omega) ?_
      refine j_dreturn dM_made_291 rfl (by (first | exact fin0 _ (by rw [hk]; rfl) ((hst _ (by omega) (by omega)).nn (by decide)) | exact fin0 _ (by rw [(by omega : hI σ 70 m = 13)]; rfl) ((hst _ (by omega) (by omega)).nn (by decide))))
  have at28 : J mM_made 28 [(0, vR 69), (1, vI m), (2, vD ((hD σ 71) m)), (4, vD a)] [] σ Q := by
    refine j_aload_n (p2 := 29) dM_made_28 rfl rfl ?_
    refine j_iload_n (p2 := 30) dM_made_29 rfl rfl ?_
    refine j_iconst (p2 := 31) dM_made_30 rfl ?_
    refine j_callV (m' := mM_has) (As := [_, _]) (p2 := 34) dM_made_31 rfl ml_M_213 ok_mM_has im_mM_has se_mM_has rfl rfl (Nat.le_of_ble_eq_true rfl) ly_69 rfl (Nat.le_of_ble_eq_true rfl) ⟨(Nat.le_of_ble_eq_true rfl), (Nat.le_of_ble_eq_true rfl)⟩ ?_
    refine cM_has hm (by omega) (by constructor <;> omega) ?_
    refine j_ifb_eq (p2 := 37) (tg := 46) dM_made_34 rfl (by decide) (fun h34 => ?_) (fun h34 => ?_)
    · refine j_dconst0 (p2 := 47) dM_made_46 rfl ?_
      refine j_dstore (p2 := 49) (lv' := [(0, _), (1, _), (2, _), (4, _), (6, _)]) dM_made_47 rfl (Nat.le_of_ble_eq_true rfl) ⟨rfl, rfl, rfl, rfl, rfl, trivial⟩ ?_
      refine J.loc (lv' := [(0, _), (1, _), (2, _), (4, _), (6, _)]) ⟨rfl, rfl, rfl, rfl, rfl, trivial⟩ ?_
      first
        | (have e : b = gin arD (hI σ 72) (hI σ 73) (hD σ 82) m 1 := by rw [hb]; unfold ga; rw [if_neg (dec_t h34)]
           rw [e] at at49; exact at49)
        | (have e : b = FP.dconst0 := by rw [hb]; unfold ga; rw [if_pos (dec_f h34)]; rfl
           rw [e] at at49; exact at49)
    · refine j_aload_n (p2 := 38) dM_made_37 rfl rfl ?_
      refine j_iload_n (p2 := 39) dM_made_38 rfl rfl ?_
      refine j_iconst (p2 := 40) dM_made_39 rfl ?_
      refine j_callV (m' := mM_input) (As := [_, _]) (p2 := 43) dM_made_40 rfl ml_M_242 ok_mM_input im_mM_input se_mM_input rfl rfl (Nat.le_of_ble_eq_true rfl) ly_69 rfl (Nat.le_of_ble_eq_true rfl) ⟨(Nat.le_of_ble_eq_true rfl), (Nat.le_of_ble_eq_true rfl)⟩ ?_
      refine cM_input hm (by omega) (by have := dec_t h34; omega) (by constructor <;> omega) ?_
      refine j_goto (p2 := 47) dM_made_43 (by decide) ?_
      refine j_dstore (p2 := 49) (lv' := [(0, _), (1, _), (2, _), (4, _), (6, _)]) dM_made_47 rfl (Nat.le_of_ble_eq_true rfl) ⟨rfl, rfl, rfl, rfl, rfl, trivial⟩ ?_
      refine J.loc (lv' := [(0, _), (1, _), (2, _), (4, _), (6, _)]) ⟨rfl, rfl, rfl, rfl, rfl, trivial⟩ ?_
      first
        | (have e : b = gin arD (hI σ 72) (hI σ 73) (hD σ 82) m 1 := by rw [hb]; unfold ga; rw [if_neg (dec_t h34)]
           rw [e] at at49; exact at49)
        | (have e : b = FP.dconst0 := by rw [hb]; unfold ga; rw [if_pos (dec_f h34)]; rfl
           rw [e] at at49; exact at49)
  refine j_aload_n (p2 := 1) dM_made_0 rfl rfl ?_
  refine j_getR (p2 := 4) dM_made_1 rfl fa_M_13 ly_69 rfl ?_
  refine j_iload_n (p2 := 5) dM_made_4 rfl rfl ?_
  refine j_dald (p2 := 6) dM_made_5 rfl ly_71 (by decide) (by omega) (by omega) ?_
  refine j_dstore_n (p2 := 7) (lv' := [(0, _), (1, _), (2, _)]) dM_made_6 rfl (Nat.le_of_ble_eq_true rfl) ⟨rfl, rfl, rfl, trivial⟩ ?_
  refine j_aload_n (p2 := 8) dM_made_7 rfl rfl ?_
  refine j_iload_n (p2 := 9) dM_made_8 rfl rfl ?_
  refine j_iconst (p2 := 10) dM_made_9 rfl ?_
  refine j_callV (m' := mM_has) (As := [_, _]) (p2 := 13) dM_made_10 rfl ml_M_213 ok_mM_has im_mM_has se_mM_has rfl rfl (Nat.le_of_ble_eq_true rfl) ly_69 rfl (Nat.le_of_ble_eq_true rfl) ⟨(Nat.le_of_ble_eq_true rfl), (Nat.le_of_ble_eq_true rfl)⟩ ?_
  refine cM_has hm (by omega) (by constructor <;> omega) ?_
  refine j_ifb_eq (p2 := 16) (tg := 25) dM_made_13 rfl (by decide) (fun h13 => ?_) (fun h13 => ?_)
  · refine j_dconst0 (p2 := 26) dM_made_25 rfl ?_
    refine j_dstore (p2 := 28) (lv' := [(0, _), (1, _), (2, _), (4, _)]) dM_made_26 rfl (Nat.le_of_ble_eq_true rfl) ⟨rfl, rfl, rfl, rfl, trivial⟩ ?_
    refine J.loc (lv' := [(0, _), (1, _), (2, _), (4, _)]) ⟨rfl, rfl, rfl, rfl, trivial⟩ ?_
    first
      | (have e : a = gin arD (hI σ 72) (hI σ 73) (hD σ 82) m 0 := by rw [ha]; unfold ga; rw [if_neg (dec_t h13)]
         rw [e] at at28; exact at28)
      | (have e : a = FP.dconst0 := by rw [ha]; unfold ga; rw [if_pos (dec_f h13)]; rfl
         rw [e] at at28; exact at28)
  · refine j_aload_n (p2 := 17) dM_made_16 rfl rfl ?_
    refine j_iload_n (p2 := 18) dM_made_17 rfl rfl ?_
    refine j_iconst (p2 := 19) dM_made_18 rfl ?_
    refine j_callV (m' := mM_input) (As := [_, _]) (p2 := 22) dM_made_19 rfl ml_M_242 ok_mM_input im_mM_input se_mM_input rfl rfl (Nat.le_of_ble_eq_true rfl) ly_69 rfl (Nat.le_of_ble_eq_true rfl) ⟨(Nat.le_of_ble_eq_true rfl), (Nat.le_of_ble_eq_true rfl)⟩ ?_
    refine cM_input hm (by omega) (by have := dec_t h13; omega) (by constructor <;> omega) ?_
    refine j_goto (p2 := 26) dM_made_22 (by decide) ?_
    refine j_dstore (p2 := 28) (lv' := [(0, _), (1, _), (2, _), (4, _)]) dM_made_26 rfl (Nat.le_of_ble_eq_true rfl) ⟨rfl, rfl, rfl, rfl, trivial⟩ ?_
    refine J.loc (lv' := [(0, _), (1, _), (2, _), (4, _)]) ⟨rfl, rfl, rfl, rfl, trivial⟩ ?_
    first
      | (have e : a = gin arD (hI σ 72) (hI σ 73) (hD σ 82) m 0 := by rw [ha]; unfold ga; rw [if_neg (dec_t h13)]
         rw [e] at at28; exact at28)
      | (have e : a = FP.dconst0 := by rw [ha]; unfold ga; rw [if_pos (dec_f h13)]; rfl
         rw [e] at at28; exact at28)
theorem gmk5_F (a b c s sm tb rw st : UInt32) : gmk arF 5 a b c s sm tb rw st = (if FP.fcmp b FP.fconst0 = some .eq then (if FP.fcmp a FP.fconst0 = some .eq then (FP.fconst0, false) else (if FP.fcmp a FP.fconst0 = some .gt then csF 3 else csF 4, true)) else (FP.fdiv a b, false)) := rfl
theorem gmk6_F (a b c s sm tb rw st : UInt32) : gmk arF 6 a b c s sm tb rw st = (if FP.fcmp a FP.fconst0 = some .lt then (FP.fconst0, true) else (Art arF a, false)) := rfl
theorem gmk8_F (a b c s sm tb rw st : UInt32) : gmk arF 8 a b c s sm tb rw st = (if FP.fcmp a b = some .gt then FP.fconst1 else csF 2, false) := rfl
theorem gmk9_F (a b c s sm tb rw st : UInt32) : gmk arF 9 a b c s sm tb rw st = (if FP.fcmp c FP.fconst0 = some .gt then a else b, false) := rfl
theorem gmk12_F (a b c s sm tb rw st : UInt32) : gmk arF 12 a b c s sm tb rw st = (if FP.fcmp a s = some .gt then s else if FP.fcmp a (FP.fneg s) = some .lt then FP.fneg s else a, false) := rfl
theorem cM_madeF {m : Int} (hw : WfR σ m) (hr : RdR σ) (hQ : vf_n32 (gmade arF (hI σ 70) (xF (hD σ 71)) (hI σ 72) (hI σ 73) (xF (hD σ 76)) (xF (hD σ 77)) (hI σ 75) (hF σ 83) (hF σ 85) (hF σ 81) m).1 → Q (some (vF (gmade arF (hI σ 70) (xF (hD σ 71)) (hI σ 72) (hI σ 73) (xF (hD σ 76)) (xF (hD σ 77)) (hI σ 75) (hF σ 83) (hF σ 85) (hF σ 81) m).1)) (wI σ 87 (lmp (hI σ 87) m (hI σ 69 44) (gmade arF (hI σ 70) (xF (hD σ 71)) (hI σ 72) (hI σ 73) (xF (hD σ 76)) (xF (hD σ 77)) (hI σ 75) (hF σ 83) (hF σ 85) (hF σ 81) m).2))) : Sp mM_madeF [vR 69, vI m] σ Q := by
  obtain ⟨hm, hc, hk0, hk9, hk7, hk10, hsn, hlm⟩ := hw
  obtain ⟨hr1, hr2⟩ := hr
  have c0 := hc 0 (by omega) (by omega)
  have c1 := hc 1 (by omega) (by omega)
  have c2 := hc 2 (by omega) (by omega)
  unfold gmade at hQ
  obtain ⟨a, ha⟩ : ∃ a, a = ga arF (hI σ 72) (hI σ 73) (hF σ 83) m 0 := ⟨_, rfl⟩
  obtain ⟨b, hb⟩ : ∃ b, b = ga arF (hI σ 72) (hI σ 73) (hF σ 83) m 1 := ⟨_, rfl⟩
  have hrd : ∀ k : Int, 0 ≤ k → k < 20 → mf ((hF σ 83) k) 128 := fun k h0 h1 => (hr1 k h0 h1).2.1
  have amg : mf a 128 := by rw [ha]; exact ga_mf (fun h => hrd _ (by omega) (by omega))
  have bmg : mf b 128 := by rw [hb]; exact ga_mf (fun h => hrd _ (by omega) (by omega))
  have smg := gsum_mf (fr := hI σ 72) (tu := hI σ 73) (r := (hF σ 83)) (m := m) (fun j hj h => by have := hc j (by omega) (by omega); exact hrd _ (by omega) (by omega)) 6 (by omega)
  rw [← ha, ← hb] at hQ
  have hst : ∀ k : Int, 0 ≤ k → k < 20 → mf ((hF σ 81) k) 128 := fun k h0 h1 => (hr1 k h0 h1).2.2.2
  have hrw : ∀ k : Int, 0 ≤ k → k < 320 → mf ((hF σ 85) k) 128 := fun k h0 h1 => (hr2 k h0 h1).2
  have hsm : hI σ 70 m = 10 ∨ hI σ 70 m = 12 → mf ((xF (hD σ 71)) m) 129 := fun h => d2f_mf (hk10 h)
  have nnz : vf_n32 FP.fconst0 := vn32.mpr (by decide)
  have nn1 : vf_n32 FP.fconst1 := vn32.mpr (by decide)
  have nn1m : vf_n32 (csF 2) := vn32.mpr (by decide)
  have nn15 : vf_n32 (csF 3) := vn32.mpr (by decide)
  have nn15m : vf_n32 (csF 4) := vn32.mpr (by decide)
  have fin0 : ∀ x, gmk arF (hI σ 70 m) a b (gin arF (hI σ 72) (hI σ 73) (hF σ 83) m 2) ((xF (hD σ 71)) m) (gsum arF (hI σ 72) (hI σ 73) (hF σ 83) m 6).1 (gtab arF (xF (hD σ 76)) (xF (hD σ 77)) (hI σ 75 m) m a) ((hF σ 85) (16 * m)) ((hF σ 81) m) = (x, false) → vf_n32 x → Q (some (vF x)) σ := by
    intro x h hn
    rw [h] at hQ
    have := hQ hn
    rw [lmp_f, wI_id] at this; exact this
  have fin1 : ∀ x, gmk arF (hI σ 70 m) a b (gin arF (hI σ 72) (hI σ 73) (hF σ 83) m 2) ((xF (hD σ 71)) m) (gsum arF (hI σ 72) (hI σ 73) (hF σ 83) m 6).1 (gtab arF (xF (hD σ 76)) (xF (hD σ 77)) (hI σ 75 m) m a) ((hF σ 85) (16 * m)) ((hF σ 81) m) = (x, true) → vf_n32 x → Q (some (vF x)) (wI σ 87 (lmp (hI σ 87) m (hI σ 69 44) true)) := by
    intro x h hn
    rw [h] at hQ
    exact hQ hn
  have nnroot : vf_n32 (Art arF a) := d2f_nn (rootD_nn (f2d_nn (amg.nn (by decide))))
  have at49 : J mM_madeF 49 [(0, vR 69), (1, vI m), (2, vF ((xF (hD σ 71)) m)), (3, vF a), (4, vF b)] [] σ Q := by
    refine j_aload_n (p2 := 50) dM_madeF_49 rfl rfl ?_
    refine j_getR (p2 := 53) dM_madeF_50 rfl fa_M_7 ly_69 rfl ?_
    refine j_iload_n (p2 := 54) dM_madeF_53 rfl rfl ?_
    refine j_iald (p2 := 55) dM_madeF_54 rfl ly_70 (by decide) (by omega) (by omega) ?_
    rcases (by omega : hI σ 70 m = 0 ∨ hI σ 70 m = 1 ∨ hI σ 70 m = 2 ∨ hI σ 70 m = 3 ∨ hI σ 70 m = 4 ∨ hI σ 70 m = 5 ∨ hI σ 70 m = 6 ∨ hI σ 70 m = 7 ∨ hI σ 70 m = 8 ∨ hI σ 70 m = 9 ∨ hI σ 70 m = 10 ∨ hI σ 70 m = 11 ∨ hI σ 70 m = 12 ∨ 12 < hI σ 70 m) with hk | hk | hk | hk | hk | hk | hk | hk | hk | hk | hk | hk | hk | hk
    · refine j_tsw_in (tg := 120) dM_madeF_55 (by constructor <;> omega) (by omega) (by omega) (by rw [hk]; rfl) (by decide) ?_
      refine j_aload_n (p2 := 121) dM_madeF_120 rfl rfl ?_
      refine j_iload_n (p2 := 122) dM_madeF_121 rfl rfl ?_
      refine j_callV (m' := mM_sumF) (As := [_]) (p2 := 125) dM_madeF_122 rfl ml_M_276 ok_mM_sumF im_mM_sumF se_mM_sumF rfl rfl (Nat.le_of_ble_eq_true rfl) ly_69 rfl (Nat.le_of_ble_eq_true rfl) ⟨(Nat.le_of_ble_eq_true rfl), (Nat.le_of_ble_eq_true rfl)⟩ ?_
      refine cM_sumF hm hc hrd ?_
      refine j_freturn dM_madeF_125 rfl (by (exact fin0 _ (by rw [hk]; rfl) (smg.nn (by decide))))
    · refine j_tsw_in (tg := 126) dM_madeF_55 (by constructor <;> omega) (by omega) (by omega) (by rw [hk]; rfl) (by decide) ?_
      refine j_fload_n (p2 := 127) dM_madeF_126 rfl rfl ?_
      refine j_fneg (p2 := 128) dM_madeF_127 rfl ?_
      refine j_freturn dM_madeF_128 rfl (by (exact fin0 _ (by rw [hk]; rfl) ((mf_neg amg).nn (by decide))))
    · refine j_tsw_in (tg := 271) dM_madeF_55 (by constructor <;> omega) (by omega) (by omega) (by rw [hk]; rfl) (by decide) ?_
      refine j_aload_n (p2 := 272) dM_madeF_271 rfl rfl ?_
      refine j_getR (p2 := 275) dM_madeF_272 rfl fa_M_49 ly_69 rfl ?_
      refine j_iload_n (p2 := 276) dM_madeF_275 rfl rfl ?_
      refine j_fald (p2 := 277) dM_madeF_276 rfl ly_81 (by decide) (by omega) (by omega) ?_
      refine j_freturn dM_madeF_277 rfl (by (first | exact fin0 _ (by rw [hk]; rfl) ((hst _ (by omega) (by omega)).nn (by decide)) | exact fin0 _ (by rw [(by omega : hI σ 70 m = 13)]; rfl) ((hst _ (by omega) (by omega)).nn (by decide))))
    · refine j_tsw_in (tg := 271) dM_madeF_55 (by constructor <;> omega) (by omega) (by omega) (by rw [hk]; rfl) (by decide) ?_
      refine j_aload_n (p2 := 272) dM_madeF_271 rfl rfl ?_
      refine j_getR (p2 := 275) dM_madeF_272 rfl fa_M_49 ly_69 rfl ?_
      refine j_iload_n (p2 := 276) dM_madeF_275 rfl rfl ?_
      refine j_fald (p2 := 277) dM_madeF_276 rfl ly_81 (by decide) (by omega) (by omega) ?_
      refine j_freturn dM_madeF_277 rfl (by (first | exact fin0 _ (by rw [hk]; rfl) ((hst _ (by omega) (by omega)).nn (by decide)) | exact fin0 _ (by rw [(by omega : hI σ 70 m = 13)]; rfl) ((hst _ (by omega) (by omega)).nn (by decide))))
    · refine j_tsw_in (tg := 129) dM_madeF_55 (by constructor <;> omega) (by omega) (by omega) (by rw [hk]; rfl) (by decide) ?_
      refine j_fload_n (p2 := 130) dM_madeF_129 rfl rfl ?_
      refine j_fload (p2 := 132) dM_madeF_130 rfl rfl ?_
      refine j_fmul (p2 := 133) dM_madeF_132 rfl (by first | with_reducible exact nnf_mul (amg.fin (by decide)) (bmg.fin (by decide)) | with_reducible exact nnf_mul (amg.fin (by decide)) ((hsm (Or.inl hk)).fin (by decide)) | with_reducible exact nnf_div (amg.fin (by decide)) (bmg.fin (by decide)) (by assumption) | with_reducible exact f2d_nn (amg.nn (by decide)) | exact nnroot) ?_
      refine j_freturn dM_madeF_133 rfl (by (exact fin0 _ (by rw [hk]; rfl) (nnf_mul (amg.fin (by decide)) (bmg.fin (by decide)))))
    · refine j_tsw_in (tg := 134) dM_madeF_55 (by constructor <;> omega) (by omega) (by omega) (by rw [hk]; rfl) (by decide) ?_
      refine j_fload (p2 := 136) dM_madeF_134 rfl rfl ?_
      refine j_fconst0 (p2 := 137) dM_madeF_136 rfl ?_
      refine j_fcmp_l_ne (p1 := 138) (p2 := 141) (tg := 168) dM_madeF_137 rfl dM_madeF_138 rfl (by decide) (fun h137 => ?_) (fun h137 => ?_)
      · refine j_fload_n (p2 := 169) dM_madeF_168 rfl rfl ?_
        refine j_fload (p2 := 171) dM_madeF_169 rfl rfl ?_
        refine j_fdiv (p2 := 172) dM_madeF_171 rfl (by first | with_reducible exact nnf_mul (amg.fin (by decide)) (bmg.fin (by decide)) | with_reducible exact nnf_mul (amg.fin (by decide)) ((hsm (Or.inl hk)).fin (by decide)) | with_reducible exact nnf_div (amg.fin (by decide)) (bmg.fin (by decide)) (by assumption) | with_reducible exact f2d_nn (amg.nn (by decide)) | exact nnroot) ?_
        refine j_freturn dM_madeF_172 rfl (by (exact fin0 _ (by rw [hk, gmk5_F, if_neg h137]) (nnf_div (amg.fin (by decide)) (bmg.fin (by decide)) h137)))
      · refine j_fload_n (p2 := 142) dM_madeF_141 rfl rfl ?_
        refine j_fconst0 (p2 := 143) dM_madeF_142 rfl ?_
        refine j_fcmp_l_ne (p1 := 144) (p2 := 147) (tg := 149) dM_madeF_143 rfl dM_madeF_144 rfl (by decide) (fun h143 => ?_) (fun h143 => ?_)
        · refine j_aload_n (p2 := 150) dM_madeF_149 rfl rfl ?_
          refine j_iload_n (p2 := 151) dM_madeF_150 rfl rfl ?_
          refine j_callV (m' := mM_light) (As := [_]) (p2 := 154) dM_madeF_151 rfl ml_M_236 ok_mM_light im_mM_light se_mM_light rfl rfl (Nat.le_of_ble_eq_true rfl) ly_69 rfl (Nat.le_of_ble_eq_true rfl) ⟨(Nat.le_of_ble_eq_true rfl), (Nat.le_of_ble_eq_true rfl)⟩ ?_
          refine cM_light hm hlm ?_
          refine j_fload_n (p2 := 155) dM_madeF_154 rfl rfl ?_
          refine j_fconst0 (p2 := 156) dM_madeF_155 rfl ?_
          refine j_fcmp_l_le (p1 := 157) (p2 := 160) (tg := 165) dM_madeF_156 rfl dM_madeF_157 rfl (by decide) (fun h156 => ?_) (fun h156 => ?_)
          · refine j_ldcf (p2 := 167) dM_madeF_165 rfl cw_M_241 ?_
            refine j_freturn dM_madeF_167 rfl (by (first | exact fin1 _ (by rw [hk, gmk5_F, if_pos h137, if_neg h143, if_pos h156]; rfl) nn15 | exact fin1 _ (by rw [hk, gmk5_F, if_pos h137, if_neg h143, if_neg h156]; rfl) nn15m))
          · refine j_ldcf (p2 := 162) dM_madeF_160 rfl cw_M_240 ?_
            refine j_goto (p2 := 167) dM_madeF_162 (by decide) ?_
            refine j_freturn dM_madeF_167 rfl (by (first | exact fin1 _ (by rw [hk, gmk5_F, if_pos h137, if_neg h143, if_pos h156]; rfl) nn15 | exact fin1 _ (by rw [hk, gmk5_F, if_pos h137, if_neg h143, if_neg h156]; rfl) nn15m))
        · refine j_fconst0 (p2 := 148) dM_madeF_147 rfl ?_
          refine j_freturn dM_madeF_148 rfl (by (exact fin0 _ (by rw [hk, gmk5_F, if_pos h137, if_pos h143]) nnz))
    · refine j_tsw_in (tg := 173) dM_madeF_55 (by constructor <;> omega) (by omega) (by omega) (by rw [hk]; rfl) (by decide) ?_
      refine j_fload_n (p2 := 174) dM_madeF_173 rfl rfl ?_
      refine j_fconst0 (p2 := 175) dM_madeF_174 rfl ?_
      refine j_fcmp_g_ge (p1 := 176) (p2 := 179) (tg := 186) dM_madeF_175 rfl dM_madeF_176 rfl (by decide) (fun h175 => ?_) (fun h175 => ?_)
      · refine j_fload_n (p2 := 187) dM_madeF_186 rfl rfl ?_
        refine j_f2d (p2 := 188) dM_madeF_187 rfl (by first | with_reducible exact nnf_mul (amg.fin (by decide)) (bmg.fin (by decide)) | with_reducible exact nnf_mul (amg.fin (by decide)) ((hsm (Or.inl hk)).fin (by decide)) | with_reducible exact nnf_div (amg.fin (by decide)) (bmg.fin (by decide)) (by assumption) | with_reducible exact f2d_nn (amg.nn (by decide)) | exact nnroot) ?_
        refine j_callS (m' := mM_root) (As := [_]) (p2 := 191) dM_madeF_188 rfl ml_M_268 ok_mM_root sm_mM_root rfl rfl (Nat.le_of_ble_eq_true rfl) (Nat.le_of_ble_eq_true rfl) ⟨(Nat.le_of_ble_eq_true rfl), (Nat.le_of_ble_eq_true rfl)⟩ ?_
        refine cM_root (nonneg_f2d amg (by assumption)) ?_
        refine j_d2f (p2 := 192) dM_madeF_191 rfl (by first | with_reducible exact nnf_mul (amg.fin (by decide)) (bmg.fin (by decide)) | with_reducible exact nnf_mul (amg.fin (by decide)) ((hsm (Or.inl hk)).fin (by decide)) | with_reducible exact nnf_div (amg.fin (by decide)) (bmg.fin (by decide)) (by assumption) | with_reducible exact f2d_nn (amg.nn (by decide)) | exact nnroot) ?_
        refine j_freturn dM_madeF_192 rfl (by (exact fin0 _ (by rw [hk, gmk6_F, if_neg h175]; rfl) nnroot))
      · refine j_aload_n (p2 := 180) dM_madeF_179 rfl rfl ?_
        refine j_iload_n (p2 := 181) dM_madeF_180 rfl rfl ?_
        refine j_callV (m' := mM_light) (As := [_]) (p2 := 184) dM_madeF_181 rfl ml_M_236 ok_mM_light im_mM_light se_mM_light rfl rfl (Nat.le_of_ble_eq_true rfl) ly_69 rfl (Nat.le_of_ble_eq_true rfl) ⟨(Nat.le_of_ble_eq_true rfl), (Nat.le_of_ble_eq_true rfl)⟩ ?_
        refine cM_light hm hlm ?_
        refine j_fconst0 (p2 := 185) dM_madeF_184 rfl ?_
        refine j_freturn dM_madeF_185 rfl (by (exact fin1 _ (by rw [hk, gmk6_F, if_pos h175]) nnz))
    · refine j_tsw_in (tg := 193) dM_madeF_55 (by constructor <;> omega) (by omega) (by omega) (by rw [hk]; rfl) (by decide) ?_
      refine j_aload_n (p2 := 194) dM_madeF_193 rfl rfl ?_
      refine j_iload_n (p2 := 195) dM_madeF_194 rfl rfl ?_
      refine j_fload_n (p2 := 196) dM_madeF_195 rfl rfl ?_
      refine j_callV (m' := mM_tableF) (As := [_, _]) (p2 := 199) dM_madeF_196 rfl ml_M_280 ok_mM_tableF im_mM_tableF se_mM_tableF rfl rfl (Nat.le_of_ble_eq_true rfl) ly_69 rfl (Nat.le_of_ble_eq_true rfl) ⟨(Nat.le_of_ble_eq_true rfl), (Nat.le_of_ble_eq_true rfl)⟩ ?_
      refine cM_tableF hm (amg.mono (by decide)) (hk7 hk) (fun htab => ?_)
      refine j_freturn dM_madeF_199 rfl (by (exact fin0 _ (by rw [hk]; rfl) htab))
    · refine j_tsw_in (tg := 200) dM_madeF_55 (by constructor <;> omega) (by omega) (by omega) (by rw [hk]; rfl) (by decide) ?_
      refine j_fload_n (p2 := 201) dM_madeF_200 rfl rfl ?_
      refine j_fload (p2 := 203) dM_madeF_201 rfl rfl ?_
      refine j_fcmp_l_le (p1 := 204) (p2 := 207) (tg := 211) dM_madeF_203 rfl dM_madeF_204 rfl (by decide) (fun h203 => ?_) (fun h203 => ?_)
      · refine j_ldcwf (p2 := 214) dM_madeF_211 rfl cw_M_284 ?_
        refine j_freturn dM_madeF_214 rfl (by (first | exact fin0 _ (by rw [hk, gmk8_F, if_pos h203]) nn1 | exact fin0 _ (by rw [hk, gmk8_F, if_neg h203]; rfl) nn1m))
      · refine j_fconst1 (p2 := 208) dM_madeF_207 rfl ?_
        refine j_goto (p2 := 214) dM_madeF_208 (by decide) ?_
        refine j_freturn dM_madeF_214 rfl (by (first | exact fin0 _ (by rw [hk, gmk8_F, if_pos h203]) nn1 | exact fin0 _ (by rw [hk, gmk8_F, if_neg h203]; rfl) nn1m))
    · refine j_tsw_in (tg := 215) dM_madeF_55 (by constructor <;> omega) (by omega) (by omega) (by rw [hk]; rfl) (by decide) ?_
      refine j_aload_n (p2 := 216) dM_madeF_215 rfl rfl ?_
      refine j_iload_n (p2 := 217) dM_madeF_216 rfl rfl ?_
      refine j_iconst (p2 := 218) dM_madeF_217 rfl ?_
      refine j_callV (m' := mM_inputF) (As := [_, _]) (p2 := 221) dM_madeF_218 rfl ml_M_246 ok_mM_inputF im_mM_inputF se_mM_inputF rfl rfl (Nat.le_of_ble_eq_true rfl) ly_69 rfl (Nat.le_of_ble_eq_true rfl) ⟨(Nat.le_of_ble_eq_true rfl), (Nat.le_of_ble_eq_true rfl)⟩ ?_
      refine cM_inputF hm (by omega) (by have := hk9 hk; omega) (by constructor <;> omega) ?_
      refine j_fconst0 (p2 := 222) dM_madeF_221 rfl ?_
      refine j_fcmp_l_le (p1 := 223) (p2 := 226) (tg := 230) dM_madeF_222 rfl dM_madeF_223 rfl (by decide) (fun h222 => ?_) (fun h222 => ?_)
      · refine j_fload (p2 := 232) dM_madeF_230 rfl rfl ?_
        refine j_freturn dM_madeF_232 rfl (by (first | exact fin0 _ (by rw [hk, gmk9_F, if_pos h222]) (amg.nn (by decide)) | exact fin0 _ (by rw [hk, gmk9_F, if_neg h222]) (bmg.nn (by decide))))
      · refine j_fload_n (p2 := 227) dM_madeF_226 rfl rfl ?_
        refine j_goto (p2 := 232) dM_madeF_227 (by decide) ?_
        refine j_freturn dM_madeF_232 rfl (by (first | exact fin0 _ (by rw [hk, gmk9_F, if_pos h222]) (amg.nn (by decide)) | exact fin0 _ (by rw [hk, gmk9_F, if_neg h222]) (bmg.nn (by decide))))
    · refine j_tsw_in (tg := 233) dM_madeF_55 (by constructor <;> omega) (by omega) (by omega) (by rw [hk]; rfl) (by decide) ?_
      refine j_fload_n (p2 := 234) dM_madeF_233 rfl rfl ?_
      refine j_fload_n (p2 := 235) dM_madeF_234 rfl rfl ?_
      refine j_fmul (p2 := 236) dM_madeF_235 rfl (by first | with_reducible exact nnf_mul (amg.fin (by decide)) (bmg.fin (by decide)) | with_reducible exact nnf_mul (amg.fin (by decide)) ((hsm (Or.inl hk)).fin (by decide)) | with_reducible exact nnf_div (amg.fin (by decide)) (bmg.fin (by decide)) (by assumption) | with_reducible exact f2d_nn (amg.nn (by decide)) | exact nnroot) ?_
      refine j_freturn dM_madeF_236 rfl (by (exact fin0 _ (by rw [hk]; rfl) (nnf_mul (amg.fin (by decide)) ((hsm (Or.inl hk)).fin (by decide)))))
    · refine j_tsw_in (tg := 237) dM_madeF_55 (by constructor <;> omega) (by omega) (by omega) (by rw [hk]; rfl) (by decide) ?_
      refine j_aload_n (p2 := 238) dM_madeF_237 rfl rfl ?_
      refine j_getR (p2 := 241) dM_madeF_238 rfl fa_M_62 ly_69 rfl ?_
      refine j_bipush (v := 16) (p2 := 243) dM_madeF_241 rfl rfl ?_
      refine j_iload_n (p2 := 244) dM_madeF_243 rfl rfl ?_
      refine j_imul (p2 := 245) dM_madeF_244 rfl ?_
      refine j_fald (p2 := 246) dM_madeF_245 rfl ly_85 (by decide) (by omega) (by omega) ?_
      refine j_freturn dM_madeF_246 rfl (by (exact fin0 _ (by rw [hk]; rfl) ((hrw _ (by omega) (by omega)).nn (by decide))))
    · refine j_tsw_in (tg := 247) dM_madeF_55 (by constructor <;> omega) (by omega) (by omega) (by rw [hk]; rfl) (by decide) ?_
      refine j_fload_n (p2 := 248) dM_madeF_247 rfl rfl ?_
      refine j_fload_n (p2 := 249) dM_madeF_248 rfl rfl ?_
      refine j_fcmp_l_le (p1 := 250) (p2 := 253) (tg := 257) dM_madeF_249 rfl dM_madeF_250 rfl (by decide) (fun h249 => ?_) (fun h249 => ?_)
      · refine j_fload_n (p2 := 258) dM_madeF_257 rfl rfl ?_
        refine j_fload_n (p2 := 259) dM_madeF_258 rfl rfl ?_
        refine j_fneg (p2 := 260) dM_madeF_259 rfl ?_
        refine j_fcmp_g_ge (p1 := 261) (p2 := 264) (tg := 269) dM_madeF_260 rfl dM_madeF_261 rfl (by decide) (fun h260 => ?_) (fun h260 => ?_)
        · refine j_fload_n (p2 := 270) dM_madeF_269 rfl rfl ?_
          refine j_freturn dM_madeF_270 rfl (by (first | exact fin0 _ (by rw [hk, gmk12_F, if_pos h249]) ((hsm (Or.inr hk)).nn (by decide)) | exact fin0 _ (by rw [hk, gmk12_F, if_neg h249, if_pos h260]) ((mf_neg (hsm (Or.inr hk))).nn (by decide)) | exact fin0 _ (by rw [hk, gmk12_F, if_neg h249, if_neg h260]) (amg.nn (by decide))))
        · refine j_fload_n (p2 := 265) dM_madeF_264 rfl rfl ?_
          refine j_fneg (p2 := 266) dM_madeF_265 rfl ?_
          refine j_goto (p2 := 270) dM_madeF_266 (by decide) ?_
          refine j_freturn dM_madeF_270 rfl (by (first | exact fin0 _ (by rw [hk, gmk12_F, if_pos h249]) ((hsm (Or.inr hk)).nn (by decide)) | exact fin0 _ (by rw [hk, gmk12_F, if_neg h249, if_pos h260]) ((mf_neg (hsm (Or.inr hk))).nn (by decide)) | exact fin0 _ (by rw [hk, gmk12_F, if_neg h249, if_neg h260]) (amg.nn (by decide))))
      · refine j_fload_n (p2 := 254) dM_madeF_253 rfl rfl ?_
        refine j_goto (p2 := 270) dM_madeF_254 (by decide) ?_
        refine j_freturn dM_madeF_270 rfl (by (first | exact fin0 _ (by rw [hk, gmk12_F, if_pos h249]) ((hsm (Or.inr hk)).nn (by decide)) | exact fin0 _ (by rw [hk, gmk12_F, if_neg h249, if_pos h260]) ((mf_neg (hsm (Or.inr hk))).nn (by decide)) | exact fin0 _ (by rw [hk, gmk12_F, if_neg h249, if_neg h260]) (amg.nn (by decide))))
    · refine j_tsw_out (tg := 271) dM_madeF_55 (by constructor <;> omega) (by omega) (by decide) ?_
      refine j_aload_n (p2 := 272) dM_madeF_271 rfl rfl ?_
      refine j_getR (p2 := 275) dM_madeF_272 rfl fa_M_49 ly_69 rfl ?_
      refine j_iload_n (p2 := 276) dM_madeF_275 rfl rfl ?_
      refine j_fald (p2 := 277) dM_madeF_276 rfl ly_81 (by decide) (by omega) (by omega) ?_
      refine j_freturn dM_madeF_277 rfl (by (first | exact fin0 _ (by rw [hk]; rfl) ((hst _ (by omega) (by omega)).nn (by decide)) | exact fin0 _ (by rw [(by omega : hI σ 70 m = 13)]; rfl) ((hst _ (by omega) (by omega)).nn (by decide))))
  have at28 : J mM_madeF 28 [(0, vR 69), (1, vI m), (2, vF ((xF (hD σ 71)) m)), (3, vF a)] [] σ Q := by
    refine j_aload_n (p2 := 29) dM_madeF_28 rfl rfl ?_
    refine j_iload_n (p2 := 30) dM_madeF_29 rfl rfl ?_
    refine j_iconst (p2 := 31) dM_madeF_30 rfl ?_
    refine j_callV (m' := mM_has) (As := [_, _]) (p2 := 34) dM_madeF_31 rfl ml_M_213 ok_mM_has im_mM_has se_mM_has rfl rfl (Nat.le_of_ble_eq_true rfl) ly_69 rfl (Nat.le_of_ble_eq_true rfl) ⟨(Nat.le_of_ble_eq_true rfl), (Nat.le_of_ble_eq_true rfl)⟩ ?_
    refine cM_has hm (by omega) (by constructor <;> omega) ?_
    refine j_ifb_eq (p2 := 37) (tg := 46) dM_madeF_34 rfl (by decide) (fun h34 => ?_) (fun h34 => ?_)
    · refine j_fconst0 (p2 := 47) dM_madeF_46 rfl ?_
      refine j_fstore (p2 := 49) (lv' := [(0, _), (1, _), (2, _), (3, _), (4, _)]) dM_madeF_47 rfl (Nat.le_of_ble_eq_true rfl) ⟨rfl, rfl, rfl, rfl, rfl, trivial⟩ ?_
      refine J.loc (lv' := [(0, _), (1, _), (2, _), (3, _), (4, _)]) ⟨rfl, rfl, rfl, rfl, rfl, trivial⟩ ?_
      first
        | (have e : b = gin arF (hI σ 72) (hI σ 73) (hF σ 83) m 1 := by rw [hb]; unfold ga; rw [if_neg (dec_t h34)]
           rw [e] at at49; exact at49)
        | (have e : b = FP.fconst0 := by rw [hb]; unfold ga; rw [if_pos (dec_f h34)]; rfl
           rw [e] at at49; exact at49)
    · refine j_aload_n (p2 := 38) dM_madeF_37 rfl rfl ?_
      refine j_iload_n (p2 := 39) dM_madeF_38 rfl rfl ?_
      refine j_iconst (p2 := 40) dM_madeF_39 rfl ?_
      refine j_callV (m' := mM_inputF) (As := [_, _]) (p2 := 43) dM_madeF_40 rfl ml_M_246 ok_mM_inputF im_mM_inputF se_mM_inputF rfl rfl (Nat.le_of_ble_eq_true rfl) ly_69 rfl (Nat.le_of_ble_eq_true rfl) ⟨(Nat.le_of_ble_eq_true rfl), (Nat.le_of_ble_eq_true rfl)⟩ ?_
      refine cM_inputF hm (by omega) (by have := dec_t h34; omega) (by constructor <;> omega) ?_
      refine j_goto (p2 := 47) dM_madeF_43 (by decide) ?_
      refine j_fstore (p2 := 49) (lv' := [(0, _), (1, _), (2, _), (3, _), (4, _)]) dM_madeF_47 rfl (Nat.le_of_ble_eq_true rfl) ⟨rfl, rfl, rfl, rfl, rfl, trivial⟩ ?_
      refine J.loc (lv' := [(0, _), (1, _), (2, _), (3, _), (4, _)]) ⟨rfl, rfl, rfl, rfl, rfl, trivial⟩ ?_
      first
        | (have e : b = gin arF (hI σ 72) (hI σ 73) (hF σ 83) m 1 := by rw [hb]; unfold ga; rw [if_neg (dec_t h34)]
           rw [e] at at49; exact at49)
        | (have e : b = FP.fconst0 := by rw [hb]; unfold ga; rw [if_pos (dec_f h34)]; rfl
           rw [e] at at49; exact at49)
  refine j_aload_n (p2 := 1) dM_madeF_0 rfl rfl ?_
  refine j_getR (p2 := 4) dM_madeF_1 rfl fa_M_13 ly_69 rfl ?_
  refine j_iload_n (p2 := 5) dM_madeF_4 rfl rfl ?_
  refine j_dald (p2 := 6) dM_madeF_5 rfl ly_71 (by decide) (by omega) (by omega) ?_
  refine j_d2f (p2 := 7) dM_madeF_6 rfl (by exact d2f_nn hsn) ?_
  refine j_fstore_n (p2 := 8) (lv' := [(0, _), (1, _), (2, _)]) dM_madeF_7 rfl (Nat.le_of_ble_eq_true rfl) ⟨rfl, rfl, rfl, trivial⟩ ?_
  refine j_aload_n (p2 := 9) dM_madeF_8 rfl rfl ?_
  refine j_iload_n (p2 := 10) dM_madeF_9 rfl rfl ?_
  refine j_iconst (p2 := 11) dM_madeF_10 rfl ?_
  refine j_callV (m' := mM_has) (As := [_, _]) (p2 := 14) dM_madeF_11 rfl ml_M_213 ok_mM_has im_mM_has se_mM_has rfl rfl (Nat.le_of_ble_eq_true rfl) ly_69 rfl (Nat.le_of_ble_eq_true rfl) ⟨(Nat.le_of_ble_eq_true rfl), (Nat.le_of_ble_eq_true rfl)⟩ ?_
  refine cM_has hm (by omega) (by constructor <;> omega) ?_
  refine j_ifb_eq (p2 := 17) (tg := 26) dM_madeF_14 rfl (by decide) (fun h14 => ?_) (fun h14 => ?_)
  · refine j_fconst0 (p2 := 27) dM_madeF_26 rfl ?_
    refine j_fstore_n (p2 := 28) (lv' := [(0, _), (1, _), (2, _), (3, _)]) dM_madeF_27 rfl (Nat.le_of_ble_eq_true rfl) ⟨rfl, rfl, rfl, rfl, trivial⟩ ?_
    refine J.loc (lv' := [(0, _), (1, _), (2, _), (3, _)]) ⟨rfl, rfl, rfl, rfl, trivial⟩ ?_
    first
      | (have e : a = gin arF (hI σ 72) (hI σ 73) (hF σ 83) m 0 := by rw [ha]; unfold ga; rw [if_neg (dec_t h14)]
         rw [e] at at28; exact at28)
      | (have e : a = FP.fconst0 := by rw [ha]; unfold ga; rw [if_pos (dec_f h14)]; rfl
         rw [e] at at28; exact at28)
  · refine j_aload_n (p2 := 18) dM_madeF_17 rfl rfl ?_
    refine j_iload_n (p2 := 19) dM_madeF_18 rfl rfl ?_
    refine j_iconst (p2 := 20) dM_madeF_19 rfl ?_
    refine j_callV (m' := mM_inputF) (As := [_, _]) (p2 := 23) dM_madeF_20 rfl ml_M_246 ok_mM_inputF im_mM_inputF se_mM_inputF rfl rfl (Nat.le_of_ble_eq_true rfl) ly_69 rfl (Nat.le_of_ble_eq_true rfl) ⟨(Nat.le_of_ble_eq_true rfl), (Nat.le_of_ble_eq_true rfl)⟩ ?_
    refine cM_inputF hm (by omega) (by have := dec_t h14; omega) (by constructor <;> omega) ?_
    refine j_goto (p2 := 27) dM_madeF_23 (by decide) ?_
    refine j_fstore_n (p2 := 28) (lv' := [(0, _), (1, _), (2, _), (3, _)]) dM_madeF_27 rfl (Nat.le_of_ble_eq_true rfl) ⟨rfl, rfl, rfl, rfl, trivial⟩ ?_
    refine J.loc (lv' := [(0, _), (1, _), (2, _), (3, _)]) ⟨rfl, rfl, rfl, rfl, trivial⟩ ?_
    first
      | (have e : a = gin arF (hI σ 72) (hI σ 73) (hF σ 83) m 0 := by rw [ha]; unfold ga; rw [if_neg (dec_t h14)]
         rw [e] at at28; exact at28)
      | (have e : a = FP.fconst0 := by rw [ha]; unfold ga; rw [if_pos (dec_f h14)]; rfl
         rw [e] at at28; exact at28)
end REF5
