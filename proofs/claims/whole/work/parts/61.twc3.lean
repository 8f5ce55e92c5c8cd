/-! ===== the class's twins: limit, table ===== -/
theorem sub_posD {x y : UInt64} (hx : FnD x) (hy : FnD y) (h : Acm arD x y = some .lt) : Acm arD (Asub arD y x) (Ac arD 0) = some .gt := dsub_pos hx hy h
theorem acm_swD {x y : UInt64} {o : Ordering} (h : Acm arD x y = some o) : Acm arD y x = some o.swap := dcmp_sw h
theorem sub_posF {x y : UInt32} (hx : FnF x) (hy : FnF y) (h : Acm arF x y = some .lt) : Acm arF (Asub arF y x) (Ac arF 0) = some .gt := fsub_pos hx hy h
theorem acm_swF {x y : UInt32} {o : Ordering} (h : Acm arF x y = some o) : Acm arF y x = some o.swap := fcmp_sw h
section TWC3
variable {σ : Hp} {Q : Option PV → Hp → Prop}
theorem cT_limitedD {a s : UInt64} (ha : FnD a) (hs : FnD s) (hQ : Q (some (vD (cvD (glim arD a s)))) σ) : Sp mT_limited [vD (cvD a), vD (cvD s)] σ Q := by
  have e1 := hcD_cmp (fn_nnD ha) hs
  have e2 := hcD_cmp (fn_nnD ha) (fn_negD hs)
  rw [← hcD_neg hs] at e2
  unfold glim at hQ
  refine j_dload_n (p2 := 1) dT_limited_0 rfl rfl ?_
  refine j_dload_n (p2 := 2) dT_limited_1 rfl rfl ?_
  refine j_dcmp_l_le (p1 := 3) (p2 := 6) (tg := 8) dT_limited_2 rfl dT_limited_3 rfl (by decide) (fun h2 => ?_) (fun h2 => ?_)
  · refine j_dload_n (p2 := 9) dT_limited_8 rfl rfl ?_
    refine j_dload_n (p2 := 10) dT_limited_9 rfl rfl ?_
    refine j_dneg (p2 := 11) dT_limited_10 rfl ?_
    refine j_dcmp_g_ge (p1 := 12) (p2 := 15) (tg := 20) dT_limited_11 rfl dT_limited_12 rfl (by decide) (fun h11 => ?_) (fun h11 => ?_)
    · refine j_dload_n (p2 := 21) dT_limited_20 rfl rfl ?_
      refine j_dreturn dT_limited_21 rfl (by rw [e1] at h2; rw [e2] at h11; first | (rw [if_neg h2, if_pos h11, ← hcD_neg hs] at hQ; exact hQ) | (rw [if_neg h2, if_neg h11] at hQ; exact hQ))
    · refine j_dload_n (p2 := 16) dT_limited_15 rfl rfl ?_
      refine j_dneg (p2 := 17) dT_limited_16 rfl ?_
      refine j_goto (p2 := 21) dT_limited_17 (by decide) ?_
      refine j_dreturn dT_limited_21 rfl (by rw [e1] at h2; rw [e2] at h11; first | (rw [if_neg h2, if_pos h11, ← hcD_neg hs] at hQ; exact hQ) | (rw [if_neg h2, if_neg h11] at hQ; exact hQ))
  · refine j_dload_n (p2 := 7) dT_limited_6 rfl rfl ?_
    refine j_dreturn dT_limited_7 rfl (by rw [e1] at h2; rw [if_pos h2] at hQ; exact hQ)
theorem cT_limitedF {a s : UInt32} (ha : FnF a) (hs : FnF s) (hQ : Q (some (vD (cvF (glim arF a s)))) σ) : Sp mT_limited [vD (cvF a), vD (cvF s)] σ Q := by
  have e1 := hcF_cmp (fn_nnF ha) hs
  have e2 := hcF_cmp (fn_nnF ha) (fn_negF hs)
  rw [← hcF_neg hs] at e2
  unfold glim at hQ
  refine j_dload_n (p2 := 1) dT_limited_0 rfl rfl ?_
  refine j_dload_n (p2 := 2) dT_limited_1 rfl rfl ?_
  refine j_dcmp_l_le (p1 := 3) (p2 := 6) (tg := 8) dT_limited_2 rfl dT_limited_3 rfl (by decide) (fun h2 => ?_) (fun h2 => ?_)
  · refine j_dload_n (p2 := 9) dT_limited_8 rfl rfl ?_
    refine j_dload_n (p2 := 10) dT_limited_9 rfl rfl ?_
    refine j_dneg (p2 := 11) dT_limited_10 rfl ?_
    refine j_dcmp_g_ge (p1 := 12) (p2 := 15) (tg := 20) dT_limited_11 rfl dT_limited_12 rfl (by decide) (fun h11 => ?_) (fun h11 => ?_)
    · refine j_dload_n (p2 := 21) dT_limited_20 rfl rfl ?_
      refine j_dreturn dT_limited_21 rfl (by rw [e1] at h2; rw [e2] at h11; first | (rw [if_neg h2, if_pos h11, ← hcF_neg hs] at hQ; exact hQ) | (rw [if_neg h2, if_neg h11] at hQ; exact hQ))
    · refine j_dload_n (p2 := 16) dT_limited_15 rfl rfl ?_
      refine j_dneg (p2 := 17) dT_limited_16 rfl ?_
      refine j_goto (p2 := 21) dT_limited_17 (by decide) ?_
      refine j_dreturn dT_limited_21 rfl (by rw [e1] at h2; rw [e2] at h11; first | (rw [if_neg h2, if_pos h11, ← hcF_neg hs] at hQ; exact hQ) | (rw [if_neg h2, if_neg h11] at hQ; exact hQ))
  · refine j_dload_n (p2 := 7) dT_limited_6 rfl rfl ?_
    refine j_dreturn dT_limited_7 rfl (by rw [e1] at h2; rw [if_pos h2] at hQ; exact hQ)
theorem cTd_fromTable {m : Int} {a : UInt64} (hm : 0 ≤ m ∧ m < 20) (hfl : hI σ 21 3 = 0) (ha : BdD a) (hT : TbR (hI σ 11 m) (hD σ 12) (hD σ 13) m) (hQ : vf_n64 (gtab arD ((hD σ 12)) ((hD σ 13)) (hI σ 11 m) m a) → Q (some (vD (cvD (gtab arD ((hD σ 12)) ((hD σ 13)) (hI σ 11 m) m a)))) σ) : Sp mT_fromTable [vR 21, vI m, vD (cvD a)] σ Q := by
  obtain ⟨hn1, hn2, hx, hsrt⟩ := hT
  obtain ⟨X, hX⟩ : ∃ X : Int → UInt64, X = (hD σ 12) := ⟨_, rfl⟩
  obtain ⟨Y, hY⟩ : ∃ Y : Int → UInt64, Y = (hD σ 13) := ⟨_, rfl⟩
  rw [← hX, ← hY] at hQ
  have ex : ∀ j : Int, rndC false (hD σ 12 j) = cvD (X j) := fun j => by rw [hX]; rfl
  have ey : ∀ j : Int, rndC false (hD σ 13 j) = cvD (Y j) := fun j => by rw [hY]; rfl
  have bx : ∀ j : Int, 0 ≤ j → j < 160 → mg (X j) 1024 := fun j h0 h1 => by rw [hX]; exact (hx j h0 h1).1
  have by_ : ∀ j : Int, 0 ≤ j → j < 160 → mg (Y j) 1024 := fun j h0 h1 => by rw [hY]; exact (hx j h0 h1).2
  have fx : ∀ j : Int, 0 ≤ j → j < 160 → FnD (X j) := fun j h0 h1 => (bx j h0 h1).fin (by decide)
  have fy : ∀ j : Int, 0 ≤ j → j < 160 → FnD (Y j) := fun j h0 h1 => (by_ j h0 h1).fin (by decide)
  have nx : ∀ j : Int, 0 ≤ j → j < 160 → vf_n64 (hD σ 12 j) := fun j h0 h1 => ((hx j h0 h1).1).nn (by decide)
  have ny : ∀ j : Int, 0 ≤ j → j < 160 → vf_n64 (hD σ 13 j) := fun j h0 h1 => ((hx j h0 h1).2).nn (by decide)
  have na := bd_nnD ha
  have ca : ∀ j : Int, 0 ≤ j → j < 160 → FP.dcmp (cvD a) (rndC false (hD σ 12 j)) = Acm arD a (X j) := fun j h0 h1 => by rw [ex]; exact hcD_cmp na (fx j h0 h1)
  have cx : ∀ j : Int, 0 ≤ j → j < 160 → FP.dcmp (rndC false (hD σ 12 j)) (cvD a) = Acm arD (X j) a := fun j h0 h1 => by rw [ex]; exact hcD_cmp (fn_nnD (fx j h0 h1)) ha.fn
  have em : m * 8 = 8 * m := Int.mul_comm m 8
  unfold gtab at hQ
  obtain ⟨K, hKd⟩ : ∃ K, K = gfk arD X a 8 (8 * m) := ⟨_, rfl⟩
  rw [← hKd] at hQ
  have fin : ¬ (Acm arD a (X (8 * m)) = some .lt ∨ Acm arD a (X (8 * m)) = some .eq) → ¬ (Acm arD a (X (8 * m + hI σ 11 m - 1)) = some .gt ∨ Acm arD a (X (8 * m + hI σ 11 m - 1)) = some .eq) →
      ∀ k : Int, 8 * m ≤ k → k + 1 ≤ 8 * m + hI σ 11 m - 1 → K = k → J mT_fromTable 135 [(0, vR 21), (2, vD (cvD a)), (6, vI (k + 1))] [] σ Q := by
    intro c1 c2 k k1 k2 hk
    rw [if_neg c1, if_neg c2, hk] at hQ
    have hst : Acm arD (X k) (X (k + 1)) = some .lt := by
      have := (hsrt (k - 8 * m) (by omega) (by omega)).1
      have e1 : 8 * m + (k - 8 * m) = k := by omega
      rw [e1] at this
      rw [hX]; exact this
    have ek : k + 1 - 1 = k := by omega
    have wp := sub_posD (fx k (by omega) (by omega)) (fx (k + 1) (by omega) (by omega)) hst
    have wz : ¬ Acm arD (Asub arD (X (k + 1)) (X k)) (Ac arD 0) = some .eq := by rw [wp]; exact fun q => by cases q
    have s1 : mg (Asub arD a (X k)) 1040 := (mg_sub (mg.mono ha (by decide)) (bx k (by omega) (by omega)) (by decide)).mono (by decide)
    have s2 : mg (Asub arD (Y (k + 1)) (Y k)) 1040 := (mg_sub (by_ (k + 1) (by omega) (by omega)) (by_ k (by omega) (by omega)) (by decide)).mono (by decide)
    have s3 : mg (Asub arD (X (k + 1)) (X k)) 1040 := (mg_sub (bx (k + 1) (by omega) (by omega)) (bx k (by omega) (by omega)) (by decide)).mono (by decide)
    have f1 := mg_fn s1 (by decide)
    have f2 := mg_fn s2 (by decide)
    have f3 := mg_fn s3 (by decide)
    have f4 : FnD (Amul arD (Asub arD a (X k)) (Asub arD (Y (k + 1)) (Y k))) := mg_fn (mg_mulX s1 s2) (by decide)
    have n5 : vf_n64 (Adiv arD (Amul arD (Asub arD a (X k)) (Asub arD (Y (k + 1)) (Y k))) (Asub arD (X (k + 1)) (X k))) := nnqD_div f4 f3 wz
    have n6 : vf_n64 (Aadd arD (Adiv arD (Amul arD (Asub arD a (X k)) (Asub arD (Y (k + 1)) (Y k))) (Asub arD (X (k + 1)) (X k))) (Y k)) := nn_add n5 (fy k (by omega) (by omega))
    have e3 : rndC false (FP.dsub (rndC false (hD σ 12 (k + 1))) (rndC false (hD σ 12 k))) = cvD (Asub arD (X (k + 1)) (X k)) := by rw [ex, ex]; exact hcD_sub (fx _ (by omega) (by omega)) (fx _ (by omega) (by omega))
    have e2 : rndC false (FP.dsub (rndC false (hD σ 13 (k + 1))) (rndC false (hD σ 13 k))) = cvD (Asub arD (Y (k + 1)) (Y k)) := by rw [ey, ey]; exact hcD_sub (fy _ (by omega) (by omega)) (fy _ (by omega) (by omega))
    have e1 : rndC false (FP.dsub (cvD a) (rndC false (hD σ 12 k))) = cvD (Asub arD a (X k)) := by rw [ex]; exact hcD_sub ha.fn (fx _ (by omega) (by omega))
    have d3 : vf_n64 (FP.dsub (rndC false (hD σ 12 (k + 1))) (rndC false (hD σ 12 k))) := by rw [ex, ex]; exact nn_sub2 (cvD_fn (fx _ (by omega) (by omega))) (cvD_fn (fx _ (by omega) (by omega)))
    have d2 : vf_n64 (FP.dsub (rndC false (hD σ 13 (k + 1))) (rndC false (hD σ 13 k))) := by rw [ey, ey]; exact nn_sub2 (cvD_fn (fy _ (by omega) (by omega))) (cvD_fn (fy _ (by omega) (by omega)))
    have d1 : vf_n64 (FP.dsub (cvD a) (rndC false (hD σ 12 k))) := by rw [ex]; exact nn_sub2 (cvD_fn ha.fn) (cvD_fn (fx _ (by omega) (by omega)))
    have at217 : J mT_fromTable 217 [(0, vR 21), (2, vD (cvD a)), (7, vD (rndC false (hD σ 12 k))), (9, vD (rndC false (hD σ 13 k))), (11, vD (cvD (Asub arD (X (k + 1)) (X k)))), (13, vD (cvD (Asub arD (Y (k + 1)) (Y k))))] [] σ Q := by
      have m4 := hcD_mul f1 f2
      have d4 : vf_n64 (FP.dmul (cvD (Asub arD a (X k))) (cvD (Asub arD (Y (k + 1)) (Y k)))) := nn_mul (cvD_fn f1) (cvD_fn f2)
      have m5 := hcD_div f4 f3 wz
      have cw := cmp0D (fn_nnD f3)
      have d5 : vf_n64 (FP.ddiv (cvD (Amul arD (Asub arD a (X k)) (Asub arD (Y (k + 1)) (Y k)))) (cvD (Asub arD (X (k + 1)) (X k)))) := nn_div2 (cvD_nn (fn_nnD f4)) (cvD_fn f3) (by rw [cw]; exact wz)
      have m6 := hcD_addI n5 (fy k (by omega) (by omega))
      have d6 : vf_n64 (FP.dadd (cvD (Adiv arD (Amul arD (Asub arD a (X k)) (Asub arD (Y (k + 1)) (Y k))) (Asub arD (X (k + 1)) (X k)))) (cvD (Y k))) := nn_add (cvD_nn n5) (cvD_fn (fy k (by omega) (by omega)))
      refine j_aload_n (p2 := 218) dT_fromTable_217 rfl rfl ?_
      refine j_aload_n (p2 := 219) dT_fromTable_218 rfl rfl ?_
      refine j_dload_n (p2 := 220) dT_fromTable_219 rfl rfl ?_
      refine j_dload (p2 := 222) dT_fromTable_220 rfl rfl ?_
      refine j_dsub (p2 := 223) dT_fromTable_222 rfl d1 ?_
      refine j_callV (m' := mT_rounded) (As := [_]) (p2 := 226) dT_fromTable_223 rfl ml_T_74 ok_mT_rounded im_mT_rounded se_mT_rounded rfl rfl (Nat.le_of_ble_eq_true rfl) ly_21 rfl (Nat.le_of_ble_eq_true rfl) ⟨(Nat.le_of_ble_eq_true rfl), (Nat.le_of_ble_eq_true rfl)⟩ ?_
      refine cTd_rounded hfl d1 ?_
      refine j_dload (p2 := 228) dT_fromTable_226 rfl rfl ?_
      refine j_dmul (p2 := 229) dT_fromTable_228 rfl (by rw [e1]; exact d4) ?_
      refine j_callV (m' := mT_rounded) (As := [_]) (p2 := 232) dT_fromTable_229 rfl ml_T_74 ok_mT_rounded im_mT_rounded se_mT_rounded rfl rfl (Nat.le_of_ble_eq_true rfl) ly_21 rfl (Nat.le_of_ble_eq_true rfl) ⟨(Nat.le_of_ble_eq_true rfl), (Nat.le_of_ble_eq_true rfl)⟩ ?_
      refine cTd_rounded hfl (by rw [e1]; exact d4) ?_
      refine j_dstore (p2 := 234) (lv' := [(0, _), (9, _), (11, _), (15, _)]) dT_fromTable_232 rfl (Nat.le_of_ble_eq_true rfl) ⟨rfl, rfl, rfl, rfl, trivial⟩ ?_
      refine j_dload (p2 := 236) dT_fromTable_234 rfl rfl ?_
      refine j_dconst0 (p2 := 237) dT_fromTable_236 rfl ?_
      refine j_dcmp_l_le (p1 := 238) (p2 := 241) (tg := 260) dT_fromTable_237 rfl dT_fromTable_238 rfl (by decide) (fun h237 => ?_) (fun h237 => ?_)
      · refine j_dload (p2 := 262) dT_fromTable_260 rfl rfl ?_
        refine j_dreturn dT_fromTable_262 rfl (by first | (exfalso; rw [cw, wp] at h237; exact h237 rfl) | (rw [e1, m4, m5, ey, m6]; exact hQ n6))
      · refine j_aload_n (p2 := 242) dT_fromTable_241 rfl rfl ?_
        refine j_aload_n (p2 := 243) dT_fromTable_242 rfl rfl ?_
        refine j_dload (p2 := 245) dT_fromTable_243 rfl rfl ?_
        refine j_dload (p2 := 247) dT_fromTable_245 rfl rfl ?_
        refine j_ddiv (p2 := 248) dT_fromTable_247 rfl (by rw [e1, m4]; exact d5) ?_
        refine j_callV (m' := mT_rounded) (As := [_]) (p2 := 251) dT_fromTable_248 rfl ml_T_74 ok_mT_rounded im_mT_rounded se_mT_rounded rfl rfl (Nat.le_of_ble_eq_true rfl) ly_21 rfl (Nat.le_of_ble_eq_true rfl) ⟨(Nat.le_of_ble_eq_true rfl), (Nat.le_of_ble_eq_true rfl)⟩ ?_
        refine cTd_rounded hfl (by rw [e1, m4]; exact d5) ?_
        refine j_dload (p2 := 253) dT_fromTable_251 rfl rfl ?_
        refine j_dadd (p2 := 254) dT_fromTable_253 rfl (by rw [e1, m4, m5, ey]; exact d6) ?_
        refine j_callV (m' := mT_rounded) (As := [_]) (p2 := 257) dT_fromTable_254 rfl ml_T_74 ok_mT_rounded im_mT_rounded se_mT_rounded rfl rfl (Nat.le_of_ble_eq_true rfl) ly_21 rfl (Nat.le_of_ble_eq_true rfl) ⟨(Nat.le_of_ble_eq_true rfl), (Nat.le_of_ble_eq_true rfl)⟩ ?_
        refine cTd_rounded hfl (by rw [e1, m4, m5, ey]; exact d6) ?_
        refine j_goto (p2 := 262) dT_fromTable_257 (by decide) ?_
        refine j_dreturn dT_fromTable_262 rfl (by first | (exfalso; rw [cw, wp] at h237; exact h237 rfl) | (rw [e1, m4, m5, ey, m6]; exact hQ n6))
    refine j_aload_n (p2 := 136) dT_fromTable_135 rfl rfl ?_
    refine j_aload_n (p2 := 137) dT_fromTable_136 rfl rfl ?_
    refine j_getR (p2 := 140) dT_fromTable_137 rfl fa_T_49 ly_21 rfl ?_
    refine j_getR (p2 := 143) dT_fromTable_140 rfl fa_T_200 ly_3 rfl ?_
    refine j_iload (p2 := 145) dT_fromTable_143 rfl rfl ?_
    refine j_iconst (p2 := 146) dT_fromTable_145 rfl ?_
    refine j_isub (p2 := 147) dT_fromTable_146 rfl ?_
    refine j_dald (p2 := 148) dT_fromTable_147 rfl ly_12 (by decide) (by omega) (by omega) ?_
    refine j_callV (m' := mT_rounded) (As := [_]) (p2 := 151) dT_fromTable_148 rfl ml_T_74 ok_mT_rounded im_mT_rounded se_mT_rounded rfl rfl (Nat.le_of_ble_eq_true rfl) ly_21 rfl (Nat.le_of_ble_eq_true rfl) ⟨(Nat.le_of_ble_eq_true rfl), (Nat.le_of_ble_eq_true rfl)⟩ ?_
    refine cTd_rounded hfl (nx _ (by omega) (by omega)) ?_
    refine j_dstore (p2 := 153) (lv' := [(0, _), (2, _), (6, _), (7, _)]) dT_fromTable_151 rfl (Nat.le_of_ble_eq_true rfl) ⟨rfl, rfl, rfl, rfl, trivial⟩ ?_
    refine j_aload_n (p2 := 154) dT_fromTable_153 rfl rfl ?_
    refine j_aload_n (p2 := 155) dT_fromTable_154 rfl rfl ?_
    refine j_getR (p2 := 158) dT_fromTable_155 rfl fa_T_49 ly_21 rfl ?_
    refine j_getR (p2 := 161) dT_fromTable_158 rfl fa_T_203 ly_3 rfl ?_
    refine j_iload (p2 := 163) dT_fromTable_161 rfl rfl ?_
    refine j_iconst (p2 := 164) dT_fromTable_163 rfl ?_
    refine j_isub (p2 := 165) dT_fromTable_164 rfl ?_
    refine j_dald (p2 := 166) dT_fromTable_165 rfl ly_13 (by decide) (by omega) (by omega) ?_
    refine j_callV (m' := mT_rounded) (As := [_]) (p2 := 169) dT_fromTable_166 rfl ml_T_74 ok_mT_rounded im_mT_rounded se_mT_rounded rfl rfl (Nat.le_of_ble_eq_true rfl) ly_21 rfl (Nat.le_of_ble_eq_true rfl) ⟨(Nat.le_of_ble_eq_true rfl), (Nat.le_of_ble_eq_true rfl)⟩ ?_
    refine cTd_rounded hfl (ny _ (by omega) (by omega)) ?_
    refine j_dstore (p2 := 171) (lv' := [(0, _), (2, _), (6, _), (7, _), (9, _)]) dT_fromTable_169 rfl (Nat.le_of_ble_eq_true rfl) ⟨rfl, rfl, rfl, rfl, rfl, trivial⟩ ?_
    refine j_aload_n (p2 := 172) dT_fromTable_171 rfl rfl ?_
    refine j_aload_n (p2 := 173) dT_fromTable_172 rfl rfl ?_
    refine j_aload_n (p2 := 174) dT_fromTable_173 rfl rfl ?_
    refine j_getR (p2 := 177) dT_fromTable_174 rfl fa_T_49 ly_21 rfl ?_
    refine j_getR (p2 := 180) dT_fromTable_177 rfl fa_T_200 ly_3 rfl ?_
    refine j_iload (p2 := 182) dT_fromTable_180 rfl rfl ?_
    refine j_dald (p2 := 183) dT_fromTable_182 rfl ly_12 (by decide) (by omega) (by omega) ?_
    refine j_callV (m' := mT_rounded) (As := [_]) (p2 := 186) dT_fromTable_183 rfl ml_T_74 ok_mT_rounded im_mT_rounded se_mT_rounded rfl rfl (Nat.le_of_ble_eq_true rfl) ly_21 rfl (Nat.le_of_ble_eq_true rfl) ⟨(Nat.le_of_ble_eq_true rfl), (Nat.le_of_ble_eq_true rfl)⟩ ?_
    refine cTd_rounded hfl (nx _ (by omega) (by omega)) ?_
    refine j_dload (p2 := 188) dT_fromTable_186 rfl rfl ?_
    refine j_dsub (p2 := 189) dT_fromTable_188 rfl (by rw [ek]; exact d3) ?_
    refine j_callV (m' := mT_rounded) (As := [_]) (p2 := 192) dT_fromTable_189 rfl ml_T_74 ok_mT_rounded im_mT_rounded se_mT_rounded rfl rfl (Nat.le_of_ble_eq_true rfl) ly_21 rfl (Nat.le_of_ble_eq_true rfl) ⟨(Nat.le_of_ble_eq_true rfl), (Nat.le_of_ble_eq_true rfl)⟩ ?_
    refine cTd_rounded hfl (by rw [ek]; exact d3) ?_
    refine j_dstore (p2 := 194) (lv' := [(0, _), (2, _), (6, _), (7, _), (9, _), (11, _)]) dT_fromTable_192 rfl (Nat.le_of_ble_eq_true rfl) ⟨rfl, rfl, rfl, rfl, rfl, rfl, trivial⟩ ?_
    refine j_aload_n (p2 := 195) dT_fromTable_194 rfl rfl ?_
    refine j_aload_n (p2 := 196) dT_fromTable_195 rfl rfl ?_
    refine j_aload_n (p2 := 197) dT_fromTable_196 rfl rfl ?_
    refine j_getR (p2 := 200) dT_fromTable_197 rfl fa_T_49 ly_21 rfl ?_
    refine j_getR (p2 := 203) dT_fromTable_200 rfl fa_T_203 ly_3 rfl ?_
    refine j_iload (p2 := 205) dT_fromTable_203 rfl rfl ?_
    refine j_dald (p2 := 206) dT_fromTable_205 rfl ly_13 (by decide) (by omega) (by omega) ?_
    refine j_callV (m' := mT_rounded) (As := [_]) (p2 := 209) dT_fromTable_206 rfl ml_T_74 ok_mT_rounded im_mT_rounded se_mT_rounded rfl rfl (Nat.le_of_ble_eq_true rfl) ly_21 rfl (Nat.le_of_ble_eq_true rfl) ⟨(Nat.le_of_ble_eq_true rfl), (Nat.le_of_ble_eq_true rfl)⟩ ?_
    refine cTd_rounded hfl (ny _ (by omega) (by omega)) ?_
    refine j_dload (p2 := 211) dT_fromTable_209 rfl rfl ?_
    refine j_dsub (p2 := 212) dT_fromTable_211 rfl (by rw [ek]; exact d2) ?_
    refine j_callV (m' := mT_rounded) (As := [_]) (p2 := 215) dT_fromTable_212 rfl ml_T_74 ok_mT_rounded im_mT_rounded se_mT_rounded rfl rfl (Nat.le_of_ble_eq_true rfl) ly_21 rfl (Nat.le_of_ble_eq_true rfl) ⟨(Nat.le_of_ble_eq_true rfl), (Nat.le_of_ble_eq_true rfl)⟩ ?_
    refine cTd_rounded hfl (by rw [ek]; exact d2) ?_
    refine j_dstore (p2 := 217) (lv' := [(0, _), (2, _), (7, _), (9, _), (11, _), (13, _)]) dT_fromTable_215 rfl (Nat.le_of_ble_eq_true rfl) ⟨rfl, rfl, rfl, rfl, rfl, rfl, trivial⟩ ?_
    refine J.loc (lv' := [(0, _), (2, _), (7, _), (9, _), (11, _), (13, _)]) ⟨rfl, rfl, rfl, rfl, rfl, rfl, trivial⟩ ?_
    rw [ek, e3, e2]
    exact at217
  have loop : ¬ (Acm arD a (X (8 * m)) = some .lt ∨ Acm arD a (X (8 * m)) = some .eq) → ¬ (Acm arD a (X (8 * m + hI σ 11 m - 1)) = some .gt ∨ Acm arD a (X (8 * m + hI σ 11 m - 1)) = some .eq) →
      ∀ (n : Nat) (k : Int), 8 * m ≤ k → k + 1 ≤ 8 * m + hI σ 11 m - 1 → 8 * m + hI σ 11 m - 1 - k ≤ n → K = gfk arD X a n k → J mT_fromTable 103 [(0, vR 21), (2, vD (cvD a)), (5, vI (8 * m + hI σ 11 m - 1)), (6, vI (k + 1))] [] σ Q := by
    intro c1 c2 n
    induction n with
    | zero => intro k h1 h2 h3; exact absurd h3 (by omega)
    | succ n ih =>
      intro k h1 h2 h3 h4
      have h4 : K = if Acm arD (X (k + 1)) a = some .lt ∨ Acm arD (X (k + 1)) a = some .eq then gfk arD X a n (k + 1) else k := h4
      have last : k + 1 = 8 * m + hI σ 11 m - 1 → ¬ (Acm arD (X (k + 1)) a = some .lt ∨ Acm arD (X (k + 1)) a = some .eq) := fun g q => by
        rw [g] at q
        rcases q with q | q
        · exact c2 (Or.inl (acm_swD q))
        · exact c2 (Or.inr (acm_swD q))
      have cxk := cx (k + 1) (by omega) (by omega)
      refine j_iload (p2 := 105) dT_fromTable_103 rfl rfl ?_
      refine j_iload (p2 := 107) dT_fromTable_105 rfl rfl ?_
      refine j_icmp_ge (p2 := 110) (tg := 135) dT_fromTable_107 rfl (by decide) (by constructor <;> omega) (by constructor <;> omega) (fun h107 => ?_) (fun h107 => ?_)
      · refine J.loc (lv' := [(0, _), (2, _), (6, _)]) ⟨rfl, rfl, rfl, trivial⟩ ?_
        first
          | exact fin c1 c2 k h1 h2 (h4.trans (if_neg (last (by omega))))
          | (rw [cxk] at h125
             exact fin c1 c2 k h1 h2 (h4.trans (if_neg h125)))
      · refine j_aload_n (p2 := 111) dT_fromTable_110 rfl rfl ?_
        refine j_aload_n (p2 := 112) dT_fromTable_111 rfl rfl ?_
        refine j_getR (p2 := 115) dT_fromTable_112 rfl fa_T_49 ly_21 rfl ?_
        refine j_getR (p2 := 118) dT_fromTable_115 rfl fa_T_200 ly_3 rfl ?_
        refine j_iload (p2 := 120) dT_fromTable_118 rfl rfl ?_
        refine j_dald (p2 := 121) dT_fromTable_120 rfl ly_12 (by decide) (by omega) (by omega) ?_
        refine j_callV (m' := mT_rounded) (As := [_]) (p2 := 124) dT_fromTable_121 rfl ml_T_74 ok_mT_rounded im_mT_rounded se_mT_rounded rfl rfl (Nat.le_of_ble_eq_true rfl) ly_21 rfl (Nat.le_of_ble_eq_true rfl) ⟨(Nat.le_of_ble_eq_true rfl), (Nat.le_of_ble_eq_true rfl)⟩ ?_
        refine cTd_rounded hfl (nx _ (by omega) (by omega)) ?_
        refine j_dload_n (p2 := 125) dT_fromTable_124 rfl rfl ?_
        refine j_dcmp_g_gt (p1 := 126) (p2 := 129) (tg := 135) dT_fromTable_125 rfl dT_fromTable_126 rfl (by decide) (fun h125 => ?_) (fun h125 => ?_)
        · refine J.loc (lv' := [(0, _), (2, _), (6, _)]) ⟨rfl, rfl, rfl, trivial⟩ ?_
          first
            | exact fin c1 c2 k h1 h2 (h4.trans (if_neg (last (by omega))))
            | (rw [cxk] at h125
               exact fin c1 c2 k h1 h2 (h4.trans (if_neg h125)))
        · refine j_iinc (p2 := 132) (lv' := [(0, _), (2, _), (5, _), (6, _)]) dT_fromTable_129 rfl (Nat.le_of_ble_eq_true rfl) rfl ⟨rfl, rfl, rfl, rfl, trivial⟩ ?_
          refine j_goto (p2 := 103) dT_fromTable_132 (by decide) ?_
          refine J.loc (lv' := [(0, _), (2, _), (5, _), (6, _)]) ⟨rfl, rfl, rfl, rfl, trivial⟩ ?_
          rw [cxk] at h125
          exact ih (k + 1) (by omega) (by omega) (by omega) (h4.trans (if_pos h125))
  have at6 : J mT_fromTable 6 [(0, vR 21), (1, vI m), (2, vD (cvD a)), (4, vI (8 * m))] [] σ Q := by
    have c0 := ca (8 * m) (by omega) (by omega)
    have cl := ca (8 * m + hI σ 11 m - 1) (by omega) (by omega)
    refine j_iload (p2 := 8) dT_fromTable_6 rfl rfl ?_
    refine j_aload_n (p2 := 9) dT_fromTable_8 rfl rfl ?_
    refine j_getR (p2 := 12) dT_fromTable_9 rfl fa_T_49 ly_21 rfl ?_
    refine j_getR (p2 := 15) dT_fromTable_12 rfl fa_T_197 ly_3 rfl ?_
    refine j_iload_n (p2 := 16) dT_fromTable_15 rfl rfl ?_
    refine j_iald (p2 := 17) dT_fromTable_16 rfl ly_11 (by decide) (by omega) (by omega) ?_
    refine j_iadd (p2 := 18) dT_fromTable_17 rfl ?_
    refine j_iconst (p2 := 19) dT_fromTable_18 rfl ?_
    refine j_isub (p2 := 20) dT_fromTable_19 rfl ?_
    refine j_istore (p2 := 22) (lv' := [(0, _), (2, _), (4, _), (5, _)]) dT_fromTable_20 rfl (Nat.le_of_ble_eq_true rfl) ⟨rfl, rfl, rfl, rfl, trivial⟩ ?_
    refine j_iload (p2 := 24) dT_fromTable_22 rfl rfl ?_
    refine j_iload (p2 := 26) dT_fromTable_24 rfl rfl ?_
    refine j_icmp_le (p2 := 29) (tg := 48) dT_fromTable_26 rfl (by decide) (by constructor <;> omega) (by constructor <;> omega) (fun h26 => ?_) (fun h26 => ?_)
    · refine j_aload_n (p2 := 49) dT_fromTable_48 rfl rfl ?_
      refine j_aload_n (p2 := 50) dT_fromTable_49 rfl rfl ?_
      refine j_getR (p2 := 53) dT_fromTable_50 rfl fa_T_49 ly_21 rfl ?_
      refine j_getR (p2 := 56) dT_fromTable_53 rfl fa_T_203 ly_3 rfl ?_
      refine j_iload (p2 := 58) dT_fromTable_56 rfl rfl ?_
      refine j_dald (p2 := 59) dT_fromTable_58 rfl ly_13 (by decide) (by omega) (by omega) ?_
      refine j_callV (m' := mT_rounded) (As := [_]) (p2 := 62) dT_fromTable_59 rfl ml_T_74 ok_mT_rounded im_mT_rounded se_mT_rounded rfl rfl (Nat.le_of_ble_eq_true rfl) ly_21 rfl (Nat.le_of_ble_eq_true rfl) ⟨(Nat.le_of_ble_eq_true rfl), (Nat.le_of_ble_eq_true rfl)⟩ ?_
      refine cTd_rounded hfl (ny _ (by omega) (by omega)) ?_
      refine j_dreturn dT_fromTable_62 rfl (by first | (exfalso; omega) | (rw [c0] at h44; rw [if_pos h44] at hQ; rw [ey]; exact hQ (fn_nnD (fy _ (by omega) (by omega)))))
    · refine j_dload_n (p2 := 30) dT_fromTable_29 rfl rfl ?_
      refine j_aload_n (p2 := 31) dT_fromTable_30 rfl rfl ?_
      refine j_aload_n (p2 := 32) dT_fromTable_31 rfl rfl ?_
      refine j_getR (p2 := 35) dT_fromTable_32 rfl fa_T_49 ly_21 rfl ?_
      refine j_getR (p2 := 38) dT_fromTable_35 rfl fa_T_200 ly_3 rfl ?_
      refine j_iload (p2 := 40) dT_fromTable_38 rfl rfl ?_
      refine j_dald (p2 := 41) dT_fromTable_40 rfl ly_12 (by decide) (by omega) (by omega) ?_
      refine j_callV (m' := mT_rounded) (As := [_]) (p2 := 44) dT_fromTable_41 rfl ml_T_74 ok_mT_rounded im_mT_rounded se_mT_rounded rfl rfl (Nat.le_of_ble_eq_true rfl) ly_21 rfl (Nat.le_of_ble_eq_true rfl) ⟨(Nat.le_of_ble_eq_true rfl), (Nat.le_of_ble_eq_true rfl)⟩ ?_
      refine cTd_rounded hfl (nx _ (by omega) (by omega)) ?_
      refine j_dcmp_g_gt (p1 := 45) (p2 := 48) (tg := 63) dT_fromTable_44 rfl dT_fromTable_45 rfl (by decide) (fun h44 => ?_) (fun h44 => ?_)
      · refine j_dload_n (p2 := 64) dT_fromTable_63 rfl rfl ?_
        refine j_aload_n (p2 := 65) dT_fromTable_64 rfl rfl ?_
        refine j_aload_n (p2 := 66) dT_fromTable_65 rfl rfl ?_
        refine j_getR (p2 := 69) dT_fromTable_66 rfl fa_T_49 ly_21 rfl ?_
        refine j_getR (p2 := 72) dT_fromTable_69 rfl fa_T_200 ly_3 rfl ?_
        refine j_iload (p2 := 74) dT_fromTable_72 rfl rfl ?_
        refine j_dald (p2 := 75) dT_fromTable_74 rfl ly_12 (by decide) (by omega) (by omega) ?_
        refine j_callV (m' := mT_rounded) (As := [_]) (p2 := 78) dT_fromTable_75 rfl ml_T_74 ok_mT_rounded im_mT_rounded se_mT_rounded rfl rfl (Nat.le_of_ble_eq_true rfl) ly_21 rfl (Nat.le_of_ble_eq_true rfl) ⟨(Nat.le_of_ble_eq_true rfl), (Nat.le_of_ble_eq_true rfl)⟩ ?_
        refine cTd_rounded hfl (nx _ (by omega) (by omega)) ?_
        refine j_dcmp_l_lt (p1 := 79) (p2 := 82) (tg := 97) dT_fromTable_78 rfl dT_fromTable_79 rfl (by decide) (fun h78 => ?_) (fun h78 => ?_)
        · refine j_iload (p2 := 99) dT_fromTable_97 rfl rfl ?_
          refine j_iconst (p2 := 100) dT_fromTable_99 rfl ?_
          refine j_iadd (p2 := 101) dT_fromTable_100 rfl ?_
          refine j_istore (p2 := 103) (lv' := [(0, _), (2, _), (5, _), (6, _)]) dT_fromTable_101 rfl (Nat.le_of_ble_eq_true rfl) ⟨rfl, rfl, rfl, rfl, trivial⟩ ?_
          refine J.loc (lv' := [(0, _), (2, _), (5, _), (6, _)]) ⟨rfl, rfl, rfl, rfl, trivial⟩ ?_
          rw [c0] at h44
          rw [cl] at h78
          exact loop h44 h78 8 (8 * m) (by omega) (by omega) (by omega) hKd
        · refine j_aload_n (p2 := 83) dT_fromTable_82 rfl rfl ?_
          refine j_aload_n (p2 := 84) dT_fromTable_83 rfl rfl ?_
          refine j_getR (p2 := 87) dT_fromTable_84 rfl fa_T_49 ly_21 rfl ?_
          refine j_getR (p2 := 90) dT_fromTable_87 rfl fa_T_203 ly_3 rfl ?_
          refine j_iload (p2 := 92) dT_fromTable_90 rfl rfl ?_
          refine j_dald (p2 := 93) dT_fromTable_92 rfl ly_13 (by decide) (by omega) (by omega) ?_
          refine j_callV (m' := mT_rounded) (As := [_]) (p2 := 96) dT_fromTable_93 rfl ml_T_74 ok_mT_rounded im_mT_rounded se_mT_rounded rfl rfl (Nat.le_of_ble_eq_true rfl) ly_21 rfl (Nat.le_of_ble_eq_true rfl) ⟨(Nat.le_of_ble_eq_true rfl), (Nat.le_of_ble_eq_true rfl)⟩ ?_
          refine cTd_rounded hfl (ny _ (by omega) (by omega)) ?_
          refine j_dreturn dT_fromTable_96 rfl (by rw [c0] at h44; rw [cl] at h78; rw [if_neg h44, if_pos h78] at hQ; rw [ey]; exact hQ (fn_nnD (fy _ (by omega) (by omega))))
      · refine j_aload_n (p2 := 49) dT_fromTable_48 rfl rfl ?_
        refine j_aload_n (p2 := 50) dT_fromTable_49 rfl rfl ?_
        refine j_getR (p2 := 53) dT_fromTable_50 rfl fa_T_49 ly_21 rfl ?_
        refine j_getR (p2 := 56) dT_fromTable_53 rfl fa_T_203 ly_3 rfl ?_
        refine j_iload (p2 := 58) dT_fromTable_56 rfl rfl ?_
        refine j_dald (p2 := 59) dT_fromTable_58 rfl ly_13 (by decide) (by omega) (by omega) ?_
        refine j_callV (m' := mT_rounded) (As := [_]) (p2 := 62) dT_fromTable_59 rfl ml_T_74 ok_mT_rounded im_mT_rounded se_mT_rounded rfl rfl (Nat.le_of_ble_eq_true rfl) ly_21 rfl (Nat.le_of_ble_eq_true rfl) ⟨(Nat.le_of_ble_eq_true rfl), (Nat.le_of_ble_eq_true rfl)⟩ ?_
        refine cTd_rounded hfl (ny _ (by omega) (by omega)) ?_
        refine j_dreturn dT_fromTable_62 rfl (by first | (exfalso; omega) | (rw [c0] at h44; rw [if_pos h44] at hQ; rw [ey]; exact hQ (fn_nnD (fy _ (by omega) (by omega)))))
  refine j_iload_n (p2 := 1) dT_fromTable_0 rfl rfl ?_
  refine j_bipush (v := 8) (p2 := 3) dT_fromTable_1 rfl rfl ?_
  refine j_imul (p2 := 4) dT_fromTable_3 rfl ?_
  refine j_istore (p2 := 6) (lv' := [(0, _), (1, _), (2, _), (4, _)]) dT_fromTable_4 rfl (Nat.le_of_ble_eq_true rfl) ⟨rfl, rfl, rfl, rfl, trivial⟩ ?_
  refine J.loc (lv' := [(0, _), (1, _), (2, _), (4, _)]) ⟨rfl, rfl, rfl, rfl, trivial⟩ ?_
  rw [em]
  exact at6
theorem cTf_fromTable {m : Int} {a : UInt32} (hm : 0 ≤ m ∧ m < 20) (hfl : hI σ 34 3 = 1) (ha : BdF a) (hT : TbR (hI σ 11 m) (hD σ 12) (hD σ 13) m) (hQ : vf_n32 (gtab arF (xF (hD σ 12)) (xF (hD σ 13)) (hI σ 11 m) m a) → Q (some (vD (cvF (gtab arF (xF (hD σ 12)) (xF (hD σ 13)) (hI σ 11 m) m a)))) σ) : Sp mT_fromTable [vR 34, vI m, vD (cvF a)] σ Q := by
  obtain ⟨hn1, hn2, hx, hsrt⟩ := hT
  obtain ⟨X, hX⟩ : ∃ X : Int → UInt32, X = xF (hD σ 12) := ⟨_, rfl⟩
  obtain ⟨Y, hY⟩ : ∃ Y : Int → UInt32, Y = xF (hD σ 13) := ⟨_, rfl⟩
  rw [← hX, ← hY] at hQ
  have ex : ∀ j : Int, rndC true (hD σ 12 j) = cvF (X j) := fun j => by rw [hX]; rfl
  have ey : ∀ j : Int, rndC true (hD σ 13 j) = cvF (Y j) := fun j => by rw [hY]; rfl
  have bx : ∀ j : Int, 0 ≤ j → j < 160 → mf (X j) 129 := fun j h0 h1 => by rw [hX]; exact d2f_mf (hx j h0 h1).1
  have by_ : ∀ j : Int, 0 ≤ j → j < 160 → mf (Y j) 129 := fun j h0 h1 => by rw [hY]; exact d2f_mf (hx j h0 h1).2
  have fx : ∀ j : Int, 0 ≤ j → j < 160 → FnF (X j) := fun j h0 h1 => (bx j h0 h1).fin (by decide)
  have fy : ∀ j : Int, 0 ≤ j → j < 160 → FnF (Y j) := fun j h0 h1 => (by_ j h0 h1).fin (by decide)
  have nx : ∀ j : Int, 0 ≤ j → j < 160 → vf_n64 (hD σ 12 j) := fun j h0 h1 => ((hx j h0 h1).1).nn (by decide)
  have ny : ∀ j : Int, 0 ≤ j → j < 160 → vf_n64 (hD σ 13 j) := fun j h0 h1 => ((hx j h0 h1).2).nn (by decide)
  have na := bd_nnF ha
  have ca : ∀ j : Int, 0 ≤ j → j < 160 → FP.dcmp (cvF a) (rndC true (hD σ 12 j)) = Acm arF a (X j) := fun j h0 h1 => by rw [ex]; exact hcF_cmp na (fx j h0 h1)
  have cx : ∀ j : Int, 0 ≤ j → j < 160 → FP.dcmp (rndC true (hD σ 12 j)) (cvF a) = Acm arF (X j) a := fun j h0 h1 => by rw [ex]; exact hcF_cmp (fn_nnF (fx j h0 h1)) ha.fn
  have em : m * 8 = 8 * m := Int.mul_comm m 8
  unfold gtab at hQ
  obtain ⟨K, hKd⟩ : ∃ K, K = gfk arF X a 8 (8 * m) := ⟨_, rfl⟩
  rw [← hKd] at hQ
  have fin : ¬ (Acm arF a (X (8 * m)) = some .lt ∨ Acm arF a (X (8 * m)) = some .eq) → ¬ (Acm arF a (X (8 * m + hI σ 11 m - 1)) = some .gt ∨ Acm arF a (X (8 * m + hI σ 11 m - 1)) = some .eq) →
      ∀ k : Int, 8 * m ≤ k → k + 1 ≤ 8 * m + hI σ 11 m - 1 → K = k → J mT_fromTable 135 [(0, vR 34), (2, vD (cvF a)), (6, vI (k + 1))] [] σ Q := by
    intro c1 c2 k k1 k2 hk
    rw [if_neg c1, if_neg c2, hk] at hQ
    have hst : Acm arF (X k) (X (k + 1)) = some .lt := by
      have := (hsrt (k - 8 * m) (by omega) (by omega)).2
      have e1 : 8 * m + (k - 8 * m) = k := by omega
      rw [e1] at this
      rw [hX]; exact this
    have ek : k + 1 - 1 = k := by omega
    have wp := sub_posF (fx k (by omega) (by omega)) (fx (k + 1) (by omega) (by omega)) hst
    have wz : ¬ Acm arF (Asub arF (X (k + 1)) (X k)) (Ac arF 0) = some .eq := by rw [wp]; exact fun q => by cases q
    have s1 : mf (Asub arF a (X k)) 140 := (mf_sub (mf.mono ha (by decide)) (bx k (by omega) (by omega)) (by decide)).mono (by decide)
    have s2 : mf (Asub arF (Y (k + 1)) (Y k)) 140 := (mf_sub (by_ (k + 1) (by omega) (by omega)) (by_ k (by omega) (by omega)) (by decide)).mono (by decide)
    have s3 : mf (Asub arF (X (k + 1)) (X k)) 140 := (mf_sub (bx (k + 1) (by omega) (by omega)) (bx k (by omega) (by omega)) (by decide)).mono (by decide)
    have f1 := mf_fn s1 (by decide)
    have f2 := mf_fn s2 (by decide)
    have f3 := mf_fn s3 (by decide)
    have f4 : FnF (Amul arF (Asub arF a (X k)) (Asub arF (Y (k + 1)) (Y k))) := mf_fn (mf_mulX s1 s2) (by decide)
    have n5 : vf_n32 (Adiv arF (Amul arF (Asub arF a (X k)) (Asub arF (Y (k + 1)) (Y k))) (Asub arF (X (k + 1)) (X k))) := nnqF_div f4 f3 wz
    have n6 : vf_n32 (Aadd arF (Adiv arF (Amul arF (Asub arF a (X k)) (Asub arF (Y (k + 1)) (Y k))) (Asub arF (X (k + 1)) (X k))) (Y k)) := nnf_add n5 (fy k (by omega) (by omega))
    have e3 : rndC true (FP.dsub (rndC true (hD σ 12 (k + 1))) (rndC true (hD σ 12 k))) = cvF (Asub arF (X (k + 1)) (X k)) := by rw [ex, ex]; exact hcF_sub (fx _ (by omega) (by omega)) (fx _ (by omega) (by omega))
    have e2 : rndC true (FP.dsub (rndC true (hD σ 13 (k + 1))) (rndC true (hD σ 13 k))) = cvF (Asub arF (Y (k + 1)) (Y k)) := by rw [ey, ey]; exact hcF_sub (fy _ (by omega) (by omega)) (fy _ (by omega) (by omega))
    have e1 : rndC true (FP.dsub (cvF a) (rndC true (hD σ 12 k))) = cvF (Asub arF a (X k)) := by rw [ex]; exact hcF_sub ha.fn (fx _ (by omega) (by omega))
    have d3 : vf_n64 (FP.dsub (rndC true (hD σ 12 (k + 1))) (rndC true (hD σ 12 k))) := by rw [ex, ex]; exact nn_sub2 (cvF_fn (fx _ (by omega) (by omega))) (cvF_fn (fx _ (by omega) (by omega)))
    have d2 : vf_n64 (FP.dsub (rndC true (hD σ 13 (k + 1))) (rndC true (hD σ 13 k))) := by rw [ey, ey]; exact nn_sub2 (cvF_fn (fy _ (by omega) (by omega))) (cvF_fn (fy _ (by omega) (by omega)))
    have d1 : vf_n64 (FP.dsub (cvF a) (rndC true (hD σ 12 k))) := by rw [ex]; exact nn_sub2 (cvF_fn ha.fn) (cvF_fn (fx _ (by omega) (by omega)))
    have at217 : J mT_fromTable 217 [(0, vR 34), (2, vD (cvF a)), (7, vD (rndC true (hD σ 12 k))), (9, vD (rndC true (hD σ 13 k))), (11, vD (cvF (Asub arF (X (k + 1)) (X k)))), (13, vD (cvF (Asub arF (Y (k + 1)) (Y k))))] [] σ Q := by
      have m4 := hcF_mul f1 f2
      have d4 : vf_n64 (FP.dmul (cvF (Asub arF a (X k))) (cvF (Asub arF (Y (k + 1)) (Y k)))) := nn_mul (cvF_fn f1) (cvF_fn f2)
      have m5 := hcF_div f4 f3 wz
      have cw := cmp0F (fn_nnF f3)
      have d5 : vf_n64 (FP.ddiv (cvF (Amul arF (Asub arF a (X k)) (Asub arF (Y (k + 1)) (Y k)))) (cvF (Asub arF (X (k + 1)) (X k)))) := nn_div2 (cvF_nn (fn_nnF f4)) (cvF_fn f3) (by rw [cw]; exact wz)
      have m6 := hcF_addI n5 (fy k (by omega) (by omega))
      have d6 : vf_n64 (FP.dadd (cvF (Adiv arF (Amul arF (Asub arF a (X k)) (Asub arF (Y (k + 1)) (Y k))) (Asub arF (X (k + 1)) (X k)))) (cvF (Y k))) := nn_add (cvF_nn n5) (cvF_fn (fy k (by omega) (by omega)))
      refine j_aload_n (p2 := 218) dT_fromTable_217 rfl rfl ?_
      refine j_aload_n (p2 := 219) dT_fromTable_218 rfl rfl ?_
      refine j_dload_n (p2 := 220) dT_fromTable_219 rfl rfl ?_
      refine j_dload (p2 := 222) dT_fromTable_220 rfl rfl ?_
      refine j_dsub (p2 := 223) dT_fromTable_222 rfl d1 ?_
      refine j_callV (m' := mT_rounded) (As := [_]) (p2 := 226) dT_fromTable_223 rfl ml_T_74 ok_mT_rounded im_mT_rounded se_mT_rounded rfl rfl (Nat.le_of_ble_eq_true rfl) ly_34 rfl (Nat.le_of_ble_eq_true rfl) ⟨(Nat.le_of_ble_eq_true rfl), (Nat.le_of_ble_eq_true rfl)⟩ ?_
      refine cTf_rounded hfl d1 ?_
      refine j_dload (p2 := 228) dT_fromTable_226 rfl rfl ?_
      refine j_dmul (p2 := 229) dT_fromTable_228 rfl (by rw [e1]; exact d4) ?_
      refine j_callV (m' := mT_rounded) (As := [_]) (p2 := 232) dT_fromTable_229 rfl ml_T_74 ok_mT_rounded im_mT_rounded se_mT_rounded rfl rfl (Nat.le_of_ble_eq_true rfl) ly_34 rfl (Nat.le_of_ble_eq_true rfl) ⟨(Nat.le_of_ble_eq_true rfl), (Nat.le_of_ble_eq_true rfl)⟩ ?_
      refine cTf_rounded hfl (by rw [e1]; exact d4) ?_
      refine j_dstore (p2 := 234) (lv' := [(0, _), (9, _), (11, _), (15, _)]) dT_fromTable_232 rfl (Nat.le_of_ble_eq_true rfl) ⟨rfl, rfl, rfl, rfl, trivial⟩ ?_
      refine j_dload (p2 := 236) dT_fromTable_234 rfl rfl ?_
      refine j_dconst0 (p2 := 237) dT_fromTable_236 rfl ?_
      refine j_dcmp_l_le (p1 := 238) (p2 := 241) (tg := 260) dT_fromTable_237 rfl dT_fromTable_238 rfl (by decide) (fun h237 => ?_) (fun h237 => ?_)
      · refine j_dload (p2 := 262) dT_fromTable_260 rfl rfl ?_
        refine j_dreturn dT_fromTable_262 rfl (by first | (exfalso; rw [cw, wp] at h237; exact h237 rfl) | (rw [e1, m4, m5, ey, m6]; exact hQ n6))
      · refine j_aload_n (p2 := 242) dT_fromTable_241 rfl rfl ?_
        refine j_aload_n (p2 := 243) dT_fromTable_242 rfl rfl ?_
        refine j_dload (p2 := 245) dT_fromTable_243 rfl rfl ?_
        refine j_dload (p2 := 247) dT_fromTable_245 rfl rfl ?_
        refine j_ddiv (p2 := 248) dT_fromTable_247 rfl (by rw [e1, m4]; exact d5) ?_
        refine j_callV (m' := mT_rounded) (As := [_]) (p2 := 251) dT_fromTable_248 rfl ml_T_74 ok_mT_rounded im_mT_rounded se_mT_rounded rfl rfl (Nat.le_of_ble_eq_true rfl) ly_34 rfl (Nat.le_of_ble_eq_true rfl) ⟨(Nat.le_of_ble_eq_true rfl), (Nat.le_of_ble_eq_true rfl)⟩ ?_
        refine cTf_rounded hfl (by rw [e1, m4]; exact d5) ?_
        refine j_dload (p2 := 253) dT_fromTable_251 rfl rfl ?_
        refine j_dadd (p2 := 254) dT_fromTable_253 rfl (by rw [e1, m4, m5, ey]; exact d6) ?_
        refine j_callV (m' := mT_rounded) (As := [_]) (p2 := 257) dT_fromTable_254 rfl ml_T_74 ok_mT_rounded im_mT_rounded se_mT_rounded rfl rfl (Nat.le_of_ble_eq_true rfl) ly_34 rfl (Nat.le_of_ble_eq_true rfl) ⟨(Nat.le_of_ble_eq_true rfl), (Nat.le_of_ble_eq_true rfl)⟩ ?_
        refine cTf_rounded hfl (by rw [e1, m4, m5, ey]; exact d6) ?_
        refine j_goto (p2 := 262) dT_fromTable_257 (by decide) ?_
        refine j_dreturn dT_fromTable_262 rfl (by first | (exfalso; rw [cw, wp] at h237; exact h237 rfl) | (rw [e1, m4, m5, ey, m6]; exact hQ n6))
    refine j_aload_n (p2 := 136) dT_fromTable_135 rfl rfl ?_
    refine j_aload_n (p2 := 137) dT_fromTable_136 rfl rfl ?_
    refine j_getR (p2 := 140) dT_fromTable_137 rfl fa_T_49 ly_34 rfl ?_
    refine j_getR (p2 := 143) dT_fromTable_140 rfl fa_T_200 ly_3 rfl ?_
    refine j_iload (p2 := 145) dT_fromTable_143 rfl rfl ?_
    refine j_iconst (p2 := 146) dT_fromTable_145 rfl ?_
    refine j_isub (p2 := 147) dT_fromTable_146 rfl ?_
    refine j_dald (p2 := 148) dT_fromTable_147 rfl ly_12 (by decide) (by omega) (by omega) ?_
    refine j_callV (m' := mT_rounded) (As := [_]) (p2 := 151) dT_fromTable_148 rfl ml_T_74 ok_mT_rounded im_mT_rounded se_mT_rounded rfl rfl (Nat.le_of_ble_eq_true rfl) ly_34 rfl (Nat.le_of_ble_eq_true rfl) ⟨(Nat.le_of_ble_eq_true rfl), (Nat.le_of_ble_eq_true rfl)⟩ ?_
    refine cTf_rounded hfl (nx _ (by omega) (by omega)) ?_
    refine j_dstore (p2 := 153) (lv' := [(0, _), (2, _), (6, _), (7, _)]) dT_fromTable_151 rfl (Nat.le_of_ble_eq_true rfl) ⟨rfl, rfl, rfl, rfl, trivial⟩ ?_
    refine j_aload_n (p2 := 154) dT_fromTable_153 rfl rfl ?_
    refine j_aload_n (p2 := 155) dT_fromTable_154 rfl rfl ?_
    refine j_getR (p2 := 158) dT_fromTable_155 rfl fa_T_49 ly_34 rfl ?_
    refine j_getR (p2 := 161) dT_fromTable_158 rfl fa_T_203 ly_3 rfl ?_
    refine j_iload (p2 := 163) dT_fromTable_161 rfl rfl ?_
    refine j_iconst (p2 := 164) dT_fromTable_163 rfl ?_
    refine j_isub (p2 := 165) dT_fromTable_164 rfl ?_
    refine j_dald (p2 := 166) dT_fromTable_165 rfl ly_13 (by decide) (by omega) (by omega) ?_
    refine j_callV (m' := mT_rounded) (As := [_]) (p2 := 169) dT_fromTable_166 rfl ml_T_74 ok_mT_rounded im_mT_rounded se_mT_rounded rfl rfl (Nat.le_of_ble_eq_true rfl) ly_34 rfl (Nat.le_of_ble_eq_true rfl) ⟨(Nat.le_of_ble_eq_true rfl), (Nat.le_of_ble_eq_true rfl)⟩ ?_
    refine cTf_rounded hfl (ny _ (by omega) (by omega)) ?_
    refine j_dstore (p2 := 171) (lv' := [(0, _), (2, _), (6, _), (7, _), (9, _)]) dT_fromTable_169 rfl (Nat.le_of_ble_eq_true rfl) ⟨rfl, rfl, rfl, rfl, rfl, trivial⟩ ?_
    refine j_aload_n (p2 := 172) dT_fromTable_171 rfl rfl ?_
    refine j_aload_n (p2 := 173) dT_fromTable_172 rfl rfl ?_
    refine j_aload_n (p2 := 174) dT_fromTable_173 rfl rfl ?_
    refine j_getR (p2 := 177) dT_fromTable_174 rfl fa_T_49 ly_34 rfl ?_
    refine j_getR (p2 := 180) dT_fromTable_177 rfl fa_T_200 ly_3 rfl ?_
    refine j_iload (p2 := 182) dT_fromTable_180 rfl rfl ?_
    refine j_dald (p2 := 183) dT_fromTable_182 rfl ly_12 (by decide) (by omega) (by omega) ?_
    refine j_callV (m' := mT_rounded) (As := [_]) (p2 := 186) dT_fromTable_183 rfl ml_T_74 ok_mT_rounded im_mT_rounded se_mT_rounded rfl rfl (Nat.le_of_ble_eq_true rfl) ly_34 rfl (Nat.le_of_ble_eq_true rfl) ⟨(Nat.le_of_ble_eq_true rfl), (Nat.le_of_ble_eq_true rfl)⟩ ?_
    refine cTf_rounded hfl (nx _ (by omega) (by omega)) ?_
    refine j_dload (p2 := 188) dT_fromTable_186 rfl rfl ?_
    refine j_dsub (p2 := 189) dT_fromTable_188 rfl (by rw [ek]; exact d3) ?_
    refine j_callV (m' := mT_rounded) (As := [_]) (p2 := 192) dT_fromTable_189 rfl ml_T_74 ok_mT_rounded im_mT_rounded se_mT_rounded rfl rfl (Nat.le_of_ble_eq_true rfl) ly_34 rfl (Nat.le_of_ble_eq_true rfl) ⟨(Nat.le_of_ble_eq_true rfl), (Nat.le_of_ble_eq_true rfl)⟩ ?_
    refine cTf_rounded hfl (by rw [ek]; exact d3) ?_
    refine j_dstore (p2 := 194) (lv' := [(0, _), (2, _), (6, _), (7, _), (9, _), (11, _)]) dT_fromTable_192 rfl (Nat.le_of_ble_eq_true rfl) ⟨rfl, rfl, rfl, rfl, rfl, rfl, trivial⟩ ?_
    refine j_aload_n (p2 := 195) dT_fromTable_194 rfl rfl ?_
    refine j_aload_n (p2 := 196) dT_fromTable_195 rfl rfl ?_
    refine j_aload_n (p2 := 197) dT_fromTable_196 rfl rfl ?_
    refine j_getR (p2 := 200) dT_fromTable_197 rfl fa_T_49 ly_34 rfl ?_
    refine j_getR (p2 := 203) dT_fromTable_200 rfl fa_T_203 ly_3 rfl ?_
    refine j_iload (p2 := 205) dT_fromTable_203 rfl rfl ?_
    refine j_dald (p2 := 206) dT_fromTable_205 rfl ly_13 (by decide) (by omega) (by omega) ?_
    refine j_callV (m' := mT_rounded) (As := [_]) (p2 := 209) dT_fromTable_206 rfl ml_T_74 ok_mT_rounded im_mT_rounded se_mT_rounded rfl rfl (Nat.le_of_ble_eq_true rfl) ly_34 rfl (Nat.le_of_ble_eq_true rfl) ⟨(Nat.le_of_ble_eq_true rfl), (Nat.le_of_ble_eq_true rfl)⟩ ?_
    refine cTf_rounded hfl (ny _ (by omega) (by omega)) ?_
    refine j_dload (p2 := 211) dT_fromTable_209 rfl rfl ?_
    refine j_dsub (p2 := 212) dT_fromTable_211 rfl (by rw [ek]; exact d2) ?_
    refine j_callV (m' := mT_rounded) (As := [_]) (p2 := 215) dT_fromTable_212 rfl ml_T_74 ok_mT_rounded im_mT_rounded se_mT_rounded rfl rfl (Nat.le_of_ble_eq_true rfl) ly_34 rfl (Nat.le_of_ble_eq_true rfl) ⟨(Nat.le_of_ble_eq_true rfl), (Nat.le_of_ble_eq_true rfl)⟩ ?_
    refine cTf_rounded hfl (by rw [ek]; exact d2) ?_
    refine j_dstore (p2 := 217) (lv' := [(0, _), (2, _), (7, _), (9, _), (11, _), (13, _)]) dT_fromTable_215 rfl (Nat.le_of_ble_eq_true rfl) ⟨rfl, rfl, rfl, rfl, rfl, rfl, trivial⟩ ?_
    refine J.loc (lv' := [(0, _), (2, _), (7, _), (9, _), (11, _), (13, _)]) ⟨rfl, rfl, rfl, rfl, rfl, rfl, trivial⟩ ?_
    rw [ek, e3, e2]
    exact at217
  have loop : ¬ (Acm arF a (X (8 * m)) = some .lt ∨ Acm arF a (X (8 * m)) = some .eq) → ¬ (Acm arF a (X (8 * m + hI σ 11 m - 1)) = some .gt ∨ Acm arF a (X (8 * m + hI σ 11 m - 1)) = some .eq) →
      ∀ (n : Nat) (k : Int), 8 * m ≤ k → k + 1 ≤ 8 * m + hI σ 11 m - 1 → 8 * m + hI σ 11 m - 1 - k ≤ n → K = gfk arF X a n k → J mT_fromTable 103 [(0, vR 34), (2, vD (cvF a)), (5, vI (8 * m + hI σ 11 m - 1)), (6, vI (k + 1))] [] σ Q := by
    intro c1 c2 n
    induction n with
    | zero => intro k h1 h2 h3; exact absurd h3 (by omega)
    | succ n ih =>
      intro k h1 h2 h3 h4
      have h4 : K = if Acm arF (X (k + 1)) a = some .lt ∨ Acm arF (X (k + 1)) a = some .eq then gfk arF X a n (k + 1) else k := h4
      have last : k + 1 = 8 * m + hI σ 11 m - 1 → ¬ (Acm arF (X (k + 1)) a = some .lt ∨ Acm arF (X (k + 1)) a = some .eq) := fun g q => by
        rw [g] at q
        rcases q with q | q
        · exact c2 (Or.inl (acm_swF q))
        · exact c2 (Or.inr (acm_swF q))
      have cxk := cx (k + 1) (by omega) (by omega)
      refine j_iload (p2 := 105) dT_fromTable_103 rfl rfl ?_
      refine j_iload (p2 := 107) dT_fromTable_105 rfl rfl ?_
      refine j_icmp_ge (p2 := 110) (tg := 135) dT_fromTable_107 rfl (by decide) (by constructor <;> omega) (by constructor <;> omega) (fun h107 => ?_) (fun h107 => ?_)
      · refine J.loc (lv' := [(0, _), (2, _), (6, _)]) ⟨rfl, rfl, rfl, trivial⟩ ?_
        first
          | exact fin c1 c2 k h1 h2 (h4.trans (if_neg (last (by omega))))
          | (rw [cxk] at h125
             exact fin c1 c2 k h1 h2 (h4.trans (if_neg h125)))
      · refine j_aload_n (p2 := 111) dT_fromTable_110 rfl rfl ?_
        refine j_aload_n (p2 := 112) dT_fromTable_111 rfl rfl ?_
        refine j_getR (p2 := 115) dT_fromTable_112 rfl fa_T_49 ly_34 rfl ?_
        refine j_getR (p2 := 118) dT_fromTable_115 rfl fa_T_200 ly_3 rfl ?_
        refine j_iload (p2 := 120) dT_fromTable_118 rfl rfl ?_
        refine j_dald (p2 := 121) dT_fromTable_120 rfl ly_12 (by decide) (by omega) (by omega) ?_
        refine j_callV (m' := mT_rounded) (As := [_]) (p2 := 124) dT_fromTable_121 rfl ml_T_74 ok_mT_rounded im_mT_rounded se_mT_rounded rfl rfl (Nat.le_of_ble_eq_true rfl) ly_34 rfl (Nat.le_of_ble_eq_true rfl) ⟨(Nat.le_of_ble_eq_true rfl), (Nat.le_of_ble_eq_true rfl)⟩ ?_
        refine cTf_rounded hfl (nx _ (by omega) (by omega)) ?_
        refine j_dload_n (p2 := 125) dT_fromTable_124 rfl rfl ?_
        refine j_dcmp_g_gt (p1 := 126) (p2 := 129) (tg := 135) dT_fromTable_125 rfl dT_fromTable_126 rfl (by decide) (fun h125 => ?_) (fun h125 => ?_)
        · refine J.loc (lv' := [(0, _), (2, _), (6, _)]) ⟨rfl, rfl, rfl, trivial⟩ ?_
          first
            | exact fin c1 c2 k h1 h2 (h4.trans (if_neg (last (by omega))))
            | (rw [cxk] at h125
               exact fin c1 c2 k h1 h2 (h4.trans (if_neg h125)))
        · refine j_iinc (p2 := 132) (lv' := [(0, _), (2, _), (5, _), (6, _)]) dT_fromTable_129 rfl (Nat.le_of_ble_eq_true rfl) rfl ⟨rfl, rfl, rfl, rfl, trivial⟩ ?_
          refine j_goto (p2 := 103) dT_fromTable_132 (by decide) ?_
          refine J.loc (lv' := [(0, _), (2, _), (5, _), (6, _)]) ⟨rfl, rfl, rfl, rfl, trivial⟩ ?_
          rw [cxk] at h125
          exact ih (k + 1) (by omega) (by omega) (by omega) (h4.trans (if_pos h125))
  have at6 : J mT_fromTable 6 [(0, vR 34), (1, vI m), (2, vD (cvF a)), (4, vI (8 * m))] [] σ Q := by
    have c0 := ca (8 * m) (by omega) (by omega)
    have cl := ca (8 * m + hI σ 11 m - 1) (by omega) (by omega)
    refine j_iload (p2 := 8) dT_fromTable_6 rfl rfl ?_
    refine j_aload_n (p2 := 9) dT_fromTable_8 rfl rfl ?_
    refine j_getR (p2 := 12) dT_fromTable_9 rfl fa_T_49 ly_34 rfl ?_
    refine j_getR (p2 := 15) dT_fromTable_12 rfl fa_T_197 ly_3 rfl ?_
    refine j_iload_n (p2 := 16) dT_fromTable_15 rfl rfl ?_
    refine j_iald (p2 := 17) dT_fromTable_16 rfl ly_11 (by decide) (by omega) (by omega) ?_
    refine j_iadd (p2 := 18) dT_fromTable_17 rfl ?_
    refine j_iconst (p2 := 19) dT_fromTable_18 rfl ?_
    refine j_isub (p2 := 20) dT_fromTable_19 rfl ?_
    refine j_istore (p2 := 22) (lv' := [(0, _), (2, _), (4, _), (5, _)]) dT_fromTable_20 rfl (Nat.le_of_ble_eq_true rfl) ⟨rfl, rfl, rfl, rfl, trivial⟩ ?_
    refine j_iload (p2 := 24) dT_fromTable_22 rfl rfl ?_
    refine j_iload (p2 := 26) dT_fromTable_24 rfl rfl ?_
    refine j_icmp_le (p2 := 29) (tg := 48) dT_fromTable_26 rfl (by decide) (by constructor <;> omega) (by constructor <;> omega) (fun h26 => ?_) (fun h26 => ?_)
    · refine j_aload_n (p2 := 49) dT_fromTable_48 rfl rfl ?_
      refine j_aload_n (p2 := 50) dT_fromTable_49 rfl rfl ?_
      refine j_getR (p2 := 53) dT_fromTable_50 rfl fa_T_49 ly_34 rfl ?_
      refine j_getR (p2 := 56) dT_fromTable_53 rfl fa_T_203 ly_3 rfl ?_
      refine j_iload (p2 := 58) dT_fromTable_56 rfl rfl ?_
      refine j_dald (p2 := 59) dT_fromTable_58 rfl ly_13 (by decide) (by omega) (by omega) ?_
      refine j_callV (m' := mT_rounded) (As := [_]) (p2 := 62) dT_fromTable_59 rfl ml_T_74 ok_mT_rounded im_mT_rounded se_mT_rounded rfl rfl (Nat.le_of_ble_eq_true rfl) ly_34 rfl (Nat.le_of_ble_eq_true rfl) ⟨(Nat.le_of_ble_eq_true rfl), (Nat.le_of_ble_eq_true rfl)⟩ ?_
      refine cTf_rounded hfl (ny _ (by omega) (by omega)) ?_
      refine j_dreturn dT_fromTable_62 rfl (by first | (exfalso; omega) | (rw [c0] at h44; rw [if_pos h44] at hQ; rw [ey]; exact hQ (fn_nnF (fy _ (by omega) (by omega)))))
    · refine j_dload_n (p2 := 30) dT_fromTable_29 rfl rfl ?_
      refine j_aload_n (p2 := 31) dT_fromTable_30 rfl rfl ?_
      refine j_aload_n (p2 := 32) dT_fromTable_31 rfl rfl ?_
      refine j_getR (p2 := 35) dT_fromTable_32 rfl fa_T_49 ly_34 rfl ?_
      refine j_getR (p2 := 38) dT_fromTable_35 rfl fa_T_200 ly_3 rfl ?_
      refine j_iload (p2 := 40) dT_fromTable_38 rfl rfl ?_
      refine j_dald (p2 := 41) dT_fromTable_40 rfl ly_12 (by decide) (by omega) (by omega) ?_
      refine j_callV (m' := mT_rounded) (As := [_]) (p2 := 44) dT_fromTable_41 rfl ml_T_74 ok_mT_rounded im_mT_rounded se_mT_rounded rfl rfl (Nat.le_of_ble_eq_true rfl) ly_34 rfl (Nat.le_of_ble_eq_true rfl) ⟨(Nat.le_of_ble_eq_true rfl), (Nat.le_of_ble_eq_true rfl)⟩ ?_
      refine cTf_rounded hfl (nx _ (by omega) (by omega)) ?_
      refine j_dcmp_g_gt (p1 := 45) (p2 := 48) (tg := 63) dT_fromTable_44 rfl dT_fromTable_45 rfl (by decide) (fun h44 => ?_) (fun h44 => ?_)
      · refine j_dload_n (p2 := 64) dT_fromTable_63 rfl rfl ?_
        refine j_aload_n (p2 := 65) dT_fromTable_64 rfl rfl ?_
        refine j_aload_n (p2 := 66) dT_fromTable_65 rfl rfl ?_
        refine j_getR (p2 := 69) dT_fromTable_66 rfl fa_T_49 ly_34 rfl ?_
        refine j_getR (p2 := 72) dT_fromTable_69 rfl fa_T_200 ly_3 rfl ?_
        refine j_iload (p2 := 74) dT_fromTable_72 rfl rfl ?_
        refine j_dald (p2 := 75) dT_fromTable_74 rfl ly_12 (by decide) (by omega) (by omega) ?_
        refine j_callV (m' := mT_rounded) (As := [_]) (p2 := 78) dT_fromTable_75 rfl ml_T_74 ok_mT_rounded im_mT_rounded se_mT_rounded rfl rfl (Nat.le_of_ble_eq_true rfl) ly_34 rfl (Nat.le_of_ble_eq_true rfl) ⟨(Nat.le_of_ble_eq_true rfl), (Nat.le_of_ble_eq_true rfl)⟩ ?_
        refine cTf_rounded hfl (nx _ (by omega) (by omega)) ?_
        refine j_dcmp_l_lt (p1 := 79) (p2 := 82) (tg := 97) dT_fromTable_78 rfl dT_fromTable_79 rfl (by decide) (fun h78 => ?_) (fun h78 => ?_)
        · refine j_iload (p2 := 99) dT_fromTable_97 rfl rfl ?_
          refine j_iconst (p2 := 100) dT_fromTable_99 rfl ?_
          refine j_iadd (p2 := 101) dT_fromTable_100 rfl ?_
          refine j_istore (p2 := 103) (lv' := [(0, _), (2, _), (5, _), (6, _)]) dT_fromTable_101 rfl (Nat.le_of_ble_eq_true rfl) ⟨rfl, rfl, rfl, rfl, trivial⟩ ?_
          refine J.loc (lv' := [(0, _), (2, _), (5, _), (6, _)]) ⟨rfl, rfl, rfl, rfl, trivial⟩ ?_
          rw [c0] at h44
          rw [cl] at h78
          exact loop h44 h78 8 (8 * m) (by omega) (by omega) (by omega) hKd
        · refine j_aload_n (p2 := 83) dT_fromTable_82 rfl rfl ?_
          refine j_aload_n (p2 := 84) dT_fromTable_83 rfl rfl ?_
          refine j_getR (p2 := 87) dT_fromTable_84 rfl fa_T_49 ly_34 rfl ?_
          refine j_getR (p2 := 90) dT_fromTable_87 rfl fa_T_203 ly_3 rfl ?_
          refine j_iload (p2 := 92) dT_fromTable_90 rfl rfl ?_
          refine j_dald (p2 := 93) dT_fromTable_92 rfl ly_13 (by decide) (by omega) (by omega) ?_
          refine j_callV (m' := mT_rounded) (As := [_]) (p2 := 96) dT_fromTable_93 rfl ml_T_74 ok_mT_rounded im_mT_rounded se_mT_rounded rfl rfl (Nat.le_of_ble_eq_true rfl) ly_34 rfl (Nat.le_of_ble_eq_true rfl) ⟨(Nat.le_of_ble_eq_true rfl), (Nat.le_of_ble_eq_true rfl)⟩ ?_
          refine cTf_rounded hfl (ny _ (by omega) (by omega)) ?_
          refine j_dreturn dT_fromTable_96 rfl (by rw [c0] at h44; rw [cl] at h78; rw [if_neg h44, if_pos h78] at hQ; rw [ey]; exact hQ (fn_nnF (fy _ (by omega) (by omega))))
      · refine j_aload_n (p2 := 49) dT_fromTable_48 rfl rfl ?_
        refine j_aload_n (p2 := 50) dT_fromTable_49 rfl rfl ?_
        refine j_getR (p2 := 53) dT_fromTable_50 rfl fa_T_49 ly_34 rfl ?_
        refine j_getR (p2 := 56) dT_fromTable_53 rfl fa_T_203 ly_3 rfl ?_
        refine j_iload (p2 := 58) dT_fromTable_56 rfl rfl ?_
        refine j_dald (p2 := 59) dT_fromTable_58 rfl ly_13 (by decide) (by omega) (by omega) ?_
        refine j_callV (m' := mT_rounded) (As := [_]) (p2 := 62) dT_fromTable_59 rfl ml_T_74 ok_mT_rounded im_mT_rounded se_mT_rounded rfl rfl (Nat.le_of_ble_eq_true rfl) ly_34 rfl (Nat.le_of_ble_eq_true rfl) ⟨(Nat.le_of_ble_eq_true rfl), (Nat.le_of_ble_eq_true rfl)⟩ ?_
        refine cTf_rounded hfl (ny _ (by omega) (by omega)) ?_
        refine j_dreturn dT_fromTable_62 rfl (by first | (exfalso; omega) | (rw [c0] at h44; rw [if_pos h44] at hQ; rw [ey]; exact hQ (fn_nnF (fy _ (by omega) (by omega)))))
  refine j_iload_n (p2 := 1) dT_fromTable_0 rfl rfl ?_
  refine j_bipush (v := 8) (p2 := 3) dT_fromTable_1 rfl rfl ?_
  refine j_imul (p2 := 4) dT_fromTable_3 rfl ?_
  refine j_istore (p2 := 6) (lv' := [(0, _), (1, _), (2, _), (4, _)]) dT_fromTable_4 rfl (Nat.le_of_ble_eq_true rfl) ⟨rfl, rfl, rfl, rfl, trivial⟩ ?_
  refine J.loc (lv' := [(0, _), (1, _), (2, _), (4, _)]) ⟨rfl, rfl, rfl, rfl, trivial⟩ ?_
  rw [em]
  exact at6
theorem cTt_fromTable {m : Int} {a : UInt64} (hm : 0 ≤ m ∧ m < 20) (hfl : hI σ 56 3 = 0) (ha : BdD a) (hT : TbR (hI σ 11 m) (hD σ 12) (hD σ 13) m) (hQ : vf_n64 (gtab arD ((hD σ 12)) ((hD σ 13)) (hI σ 11 m) m a) → Q (some (vD (cvD (gtab arD ((hD σ 12)) ((hD σ 13)) (hI σ 11 m) m a)))) σ) : Sp mT_fromTable [vR 56, vI m, vD (cvD a)] σ Q := by
  obtain ⟨hn1, hn2, hx, hsrt⟩ := hT
  obtain ⟨X, hX⟩ : ∃ X : Int → UInt64, X = (hD σ 12) := ⟨_, rfl⟩
  obtain ⟨Y, hY⟩ : ∃ Y : Int → UInt64, Y = (hD σ 13) := ⟨_, rfl⟩
  rw [← hX, ← hY] at hQ
  have ex : ∀ j : Int, rndC false (hD σ 12 j) = cvD (X j) := fun j => by rw [hX]; rfl
  have ey : ∀ j : Int, rndC false (hD σ 13 j) = cvD (Y j) := fun j => by rw [hY]; rfl
  have bx : ∀ j : Int, 0 ≤ j → j < 160 → mg (X j) 1024 := fun j h0 h1 => by rw [hX]; exact (hx j h0 h1).1
  have by_ : ∀ j : Int, 0 ≤ j → j < 160 → mg (Y j) 1024 := fun j h0 h1 => by rw [hY]; exact (hx j h0 h1).2
  have fx : ∀ j : Int, 0 ≤ j → j < 160 → FnD (X j) := fun j h0 h1 => (bx j h0 h1).fin (by decide)
  have fy : ∀ j : Int, 0 ≤ j → j < 160 → FnD (Y j) := fun j h0 h1 => (by_ j h0 h1).fin (by decide)
  have nx : ∀ j : Int, 0 ≤ j → j < 160 → vf_n64 (hD σ 12 j) := fun j h0 h1 => ((hx j h0 h1).1).nn (by decide)
  have ny : ∀ j : Int, 0 ≤ j → j < 160 → vf_n64 (hD σ 13 j) := fun j h0 h1 => ((hx j h0 h1).2).nn (by decide)
  have na := bd_nnD ha
  have ca : ∀ j : Int, 0 ≤ j → j < 160 → FP.dcmp (cvD a) (rndC false (hD σ 12 j)) = Acm arD a (X j) := fun j h0 h1 => by rw [ex]; exact hcD_cmp na (fx j h0 h1)
  have cx : ∀ j : Int, 0 ≤ j → j < 160 → FP.dcmp (rndC false (hD σ 12 j)) (cvD a) = Acm arD (X j) a := fun j h0 h1 => by rw [ex]; exact hcD_cmp (fn_nnD (fx j h0 h1)) ha.fn
  have em : m * 8 = 8 * m := Int.mul_comm m 8
  unfold gtab at hQ
  obtain ⟨K, hKd⟩ : ∃ K, K = gfk arD X a 8 (8 * m) := ⟨_, rfl⟩
  rw [← hKd] at hQ
  have fin : ¬ (Acm arD a (X (8 * m)) = some .lt ∨ Acm arD a (X (8 * m)) = some .eq) → ¬ (Acm arD a (X (8 * m + hI σ 11 m - 1)) = some .gt ∨ Acm arD a (X (8 * m + hI σ 11 m - 1)) = some .eq) →
      ∀ k : Int, 8 * m ≤ k → k + 1 ≤ 8 * m + hI σ 11 m - 1 → K = k → J mT_fromTable 135 [(0, vR 56), (2, vD (cvD a)), (6, vI (k + 1))] [] σ Q := by
    intro c1 c2 k k1 k2 hk
    rw [if_neg c1, if_neg c2, hk] at hQ
    have hst : Acm arD (X k) (X (k + 1)) = some .lt := by
      have := (hsrt (k - 8 * m) (by omega) (by omega)).1
      have e1 : 8 * m + (k - 8 * m) = k := by omega
      rw [e1] at this
      rw [hX]; exact this
    have ek : k + 1 - 1 = k := by omega
    have wp := sub_posD (fx k (by omega) (by omega)) (fx (k + 1) (by omega) (by omega)) hst
    have wz : ¬ Acm arD (Asub arD (X (k + 1)) (X k)) (Ac arD 0) = some .eq := by rw [wp]; exact fun q => by cases q
    have s1 : mg (Asub arD a (X k)) 1040 := (mg_sub (mg.mono ha (by decide)) (bx k (by omega) (by omega)) (by decide)).mono (by decide)
    have s2 : mg (Asub arD (Y (k + 1)) (Y k)) 1040 := (mg_sub (by_ (k + 1) (by omega) (by omega)) (by_ k (by omega) (by omega)) (by decide)).mono (by decide)
    have s3 : mg (Asub arD (X (k + 1)) (X k)) 1040 := (mg_sub (bx (k + 1) (by omega) (by omega)) (bx k (by omega) (by omega)) (by decide)).mono (by decide)
    have f1 := mg_fn s1 (by decide)
    have f2 := mg_fn s2 (by decide)
    have f3 := mg_fn s3 (by decide)
    have f4 : FnD (Amul arD (Asub arD a (X k)) (Asub arD (Y (k + 1)) (Y k))) := mg_fn (mg_mulX s1 s2) (by decide)
    have n5 : vf_n64 (Adiv arD (Amul arD (Asub arD a (X k)) (Asub arD (Y (k + 1)) (Y k))) (Asub arD (X (k + 1)) (X k))) := nnqD_div f4 f3 wz
    have n6 : vf_n64 (Aadd arD (Adiv arD (Amul arD (Asub arD a (X k)) (Asub arD (Y (k + 1)) (Y k))) (Asub arD (X (k + 1)) (X k))) (Y k)) := nn_add n5 (fy k (by omega) (by omega))
    have e3 : rndC false (FP.dsub (rndC false (hD σ 12 (k + 1))) (rndC false (hD σ 12 k))) = cvD (Asub arD (X (k + 1)) (X k)) := by rw [ex, ex]; exact hcD_sub (fx _ (by omega) (by omega)) (fx _ (by omega) (by omega))
    have e2 : rndC false (FP.dsub (rndC false (hD σ 13 (k + 1))) (rndC false (hD σ 13 k))) = cvD (Asub arD (Y (k + 1)) (Y k)) := by rw [ey, ey]; exact hcD_sub (fy _ (by omega) (by omega)) (fy _ (by omega) (by omega))
    have e1 : rndC false (FP.dsub (cvD a) (rndC false (hD σ 12 k))) = cvD (Asub arD a (X k)) := by rw [ex]; exact hcD_sub ha.fn (fx _ (by omega) (by omega))
    have d3 : vf_n64 (FP.dsub (rndC false (hD σ 12 (k + 1))) (rndC false (hD σ 12 k))) := by rw [ex, ex]; exact nn_sub2 (cvD_fn (fx _ (by omega) (by omega))) (cvD_fn (fx _ (by omega) (by omega)))
    have d2 : vf_n64 (FP.dsub (rndC false (hD σ 13 (k + 1))) (rndC false (hD σ 13 k))) := by rw [ey, ey]; exact nn_sub2 (cvD_fn (fy _ (by omega) (by omega))) (cvD_fn (fy _ (by omega) (by omega)))
    have d1 : vf_n64 (FP.dsub (cvD a) (rndC false (hD σ 12 k))) := by rw [ex]; exact nn_sub2 (cvD_fn ha.fn) (cvD_fn (fx _ (by omega) (by omega)))
    have at217 : J mT_fromTable 217 [(0, vR 56), (2, vD (cvD a)), (7, vD (rndC false (hD σ 12 k))), (9, vD (rndC false (hD σ 13 k))), (11, vD (cvD (Asub arD (X (k + 1)) (X k)))), (13, vD (cvD (Asub arD (Y (k + 1)) (Y k))))] [] σ Q := by
      have m4 := hcD_mul f1 f2
      have d4 : vf_n64 (FP.dmul (cvD (Asub arD a (X k))) (cvD (Asub arD (Y (k + 1)) (Y k)))) := nn_mul (cvD_fn f1) (cvD_fn f2)
      have m5 := hcD_div f4 f3 wz
      have cw := cmp0D (fn_nnD f3)
      have d5 : vf_n64 (FP.ddiv (cvD (Amul arD (Asub arD a (X k)) (Asub arD (Y (k + 1)) (Y k)))) (cvD (Asub arD (X (k + 1)) (X k)))) := nn_div2 (cvD_nn (fn_nnD f4)) (cvD_fn f3) (by rw [cw]; exact wz)
      have m6 := hcD_addI n5 (fy k (by omega) (by omega))
      have d6 : vf_n64 (FP.dadd (cvD (Adiv arD (Amul arD (Asub arD a (X k)) (Asub arD (Y (k + 1)) (Y k))) (Asub arD (X (k + 1)) (X k)))) (cvD (Y k))) := nn_add (cvD_nn n5) (cvD_fn (fy k (by omega) (by omega)))
      refine j_aload_n (p2 := 218) dT_fromTable_217 rfl rfl ?_
      refine j_aload_n (p2 := 219) dT_fromTable_218 rfl rfl ?_
      refine j_dload_n (p2 := 220) dT_fromTable_219 rfl rfl ?_
      refine j_dload (p2 := 222) dT_fromTable_220 rfl rfl ?_
      refine j_dsub (p2 := 223) dT_fromTable_222 rfl d1 ?_
      refine j_callV (m' := mT_rounded) (As := [_]) (p2 := 226) dT_fromTable_223 rfl ml_T_74 ok_mT_rounded im_mT_rounded se_mT_rounded rfl rfl (Nat.le_of_ble_eq_true rfl) ly_56 rfl (Nat.le_of_ble_eq_true rfl) ⟨(Nat.le_of_ble_eq_true rfl), (Nat.le_of_ble_eq_true rfl)⟩ ?_
      refine cTt_rounded hfl d1 ?_
      refine j_dload (p2 := 228) dT_fromTable_226 rfl rfl ?_
      refine j_dmul (p2 := 229) dT_fromTable_228 rfl (by rw [e1]; exact d4) ?_
      refine j_callV (m' := mT_rounded) (As := [_]) (p2 := 232) dT_fromTable_229 rfl ml_T_74 ok_mT_rounded im_mT_rounded se_mT_rounded rfl rfl (Nat.le_of_ble_eq_true rfl) ly_56 rfl (Nat.le_of_ble_eq_true rfl) ⟨(Nat.le_of_ble_eq_true rfl), (Nat.le_of_ble_eq_true rfl)⟩ ?_
      refine cTt_rounded hfl (by rw [e1]; exact d4) ?_
      refine j_dstore (p2 := 234) (lv' := [(0, _), (9, _), (11, _), (15, _)]) dT_fromTable_232 rfl (Nat.le_of_ble_eq_true rfl) ⟨rfl, rfl, rfl, rfl, trivial⟩ ?_
      refine j_dload (p2 := 236) dT_fromTable_234 rfl rfl ?_
      refine j_dconst0 (p2 := 237) dT_fromTable_236 rfl ?_
      refine j_dcmp_l_le (p1 := 238) (p2 := 241) (tg := 260) dT_fromTable_237 rfl dT_fromTable_238 rfl (by decide) (fun h237 => ?_) (fun h237 => ?_)
      · refine j_dload (p2 := 262) dT_fromTable_260 rfl rfl ?_
        refine j_dreturn dT_fromTable_262 rfl (by first | (exfalso; rw [cw, wp] at h237; exact h237 rfl) | (rw [e1, m4, m5, ey, m6]; exact hQ n6))
      · refine j_aload_n (p2 := 242) dT_fromTable_241 rfl rfl ?_
        refine j_aload_n (p2 := 243) dT_fromTable_242 rfl rfl ?_
        refine j_dload (p2 := 245) dT_fromTable_243 rfl rfl ?_
        refine j_dload (p2 := 247) dT_fromTable_245 rfl rfl ?_
        refine j_ddiv (p2 := 248) dT_fromTable_247 rfl (by rw [e1, m4]; exact d5) ?_
        refine j_callV (m' := mT_rounded) (As := [_]) (p2 := 251) dT_fromTable_248 rfl ml_T_74 ok_mT_rounded im_mT_rounded se_mT_rounded rfl rfl (Nat.le_of_ble_eq_true rfl) ly_56 rfl (Nat.le_of_ble_eq_true rfl) ⟨(Nat.le_of_ble_eq_true rfl), (Nat.le_of_ble_eq_true rfl)⟩ ?_
        refine cTt_rounded hfl (by rw [e1, m4]; exact d5) ?_
        refine j_dload (p2 := 253) dT_fromTable_251 rfl rfl ?_
        refine j_dadd (p2 := 254) dT_fromTable_253 rfl (by rw [e1, m4, m5, ey]; exact d6) ?_
        refine j_callV (m' := mT_rounded) (As := [_]) (p2 := 257) dT_fromTable_254 rfl ml_T_74 ok_mT_rounded im_mT_rounded se_mT_rounded rfl rfl (Nat.le_of_ble_eq_true rfl) ly_56 rfl (Nat.le_of_ble_eq_true rfl) ⟨(Nat.le_of_ble_eq_true rfl), (Nat.le_of_ble_eq_true rfl)⟩ ?_
        refine cTt_rounded hfl (by rw [e1, m4, m5, ey]; exact d6) ?_
        refine j_goto (p2 := 262) dT_fromTable_257 (by decide) ?_
        refine j_dreturn dT_fromTable_262 rfl (by first | (exfalso; rw [cw, wp] at h237; exact h237 rfl) | (rw [e1, m4, m5, ey, m6]; exact hQ n6))
    refine j_aload_n (p2 := 136) dT_fromTable_135 rfl rfl ?_
    refine j_aload_n (p2 := 137) dT_fromTable_136 rfl rfl ?_
    refine j_getR (p2 := 140) dT_fromTable_137 rfl fa_T_49 ly_56 rfl ?_
    refine j_getR (p2 := 143) dT_fromTable_140 rfl fa_T_200 ly_3 rfl ?_
    refine j_iload (p2 := 145) dT_fromTable_143 rfl rfl ?_
    refine j_iconst (p2 := 146) dT_fromTable_145 rfl ?_
    refine j_isub (p2 := 147) dT_fromTable_146 rfl ?_
    refine j_dald (p2 := 148) dT_fromTable_147 rfl ly_12 (by decide) (by omega) (by omega) ?_
    refine j_callV (m' := mT_rounded) (As := [_]) (p2 := 151) dT_fromTable_148 rfl ml_T_74 ok_mT_rounded im_mT_rounded se_mT_rounded rfl rfl (Nat.le_of_ble_eq_true rfl) ly_56 rfl (Nat.le_of_ble_eq_true rfl) ⟨(Nat.le_of_ble_eq_true rfl), (Nat.le_of_ble_eq_true rfl)⟩ ?_
    refine cTt_rounded hfl (nx _ (by omega) (by omega)) ?_
    refine j_dstore (p2 := 153) (lv' := [(0, _), (2, _), (6, _), (7, _)]) dT_fromTable_151 rfl (Nat.le_of_ble_eq_true rfl) ⟨rfl, rfl, rfl, rfl, trivial⟩ ?_
    refine j_aload_n (p2 := 154) dT_fromTable_153 rfl rfl ?_
    refine j_aload_n (p2 := 155) dT_fromTable_154 rfl rfl ?_
    refine j_getR (p2 := 158) dT_fromTable_155 rfl fa_T_49 ly_56 rfl ?_
    refine j_getR (p2 := 161) dT_fromTable_158 rfl fa_T_203 ly_3 rfl ?_
    refine j_iload (p2 := 163) dT_fromTable_161 rfl rfl ?_
    refine j_iconst (p2 := 164) dT_fromTable_163 rfl ?_
    refine j_isub (p2 := 165) dT_fromTable_164 rfl ?_
    refine j_dald (p2 := 166) dT_fromTable_165 rfl ly_13 (by decide) (by omega) (by omega) ?_
    refine j_callV (m' := mT_rounded) (As := [_]) (p2 := 169) dT_fromTable_166 rfl ml_T_74 ok_mT_rounded im_mT_rounded se_mT_rounded rfl rfl (Nat.le_of_ble_eq_true rfl) ly_56 rfl (Nat.le_of_ble_eq_true rfl) ⟨(Nat.le_of_ble_eq_true rfl), (Nat.le_of_ble_eq_true rfl)⟩ ?_
    refine cTt_rounded hfl (ny _ (by omega) (by omega)) ?_
    refine j_dstore (p2 := 171) (lv' := [(0, _), (2, _), (6, _), (7, _), (9, _)]) dT_fromTable_169 rfl (Nat.le_of_ble_eq_true rfl) ⟨rfl, rfl, rfl, rfl, rfl, trivial⟩ ?_
    refine j_aload_n (p2 := 172) dT_fromTable_171 rfl rfl ?_
    refine j_aload_n (p2 := 173) dT_fromTable_172 rfl rfl ?_
    refine j_aload_n (p2 := 174) dT_fromTable_173 rfl rfl ?_
    refine j_getR (p2 := 177) dT_fromTable_174 rfl fa_T_49 ly_56 rfl ?_
    refine j_getR (p2 := 180) dT_fromTable_177 rfl fa_T_200 ly_3 rfl ?_
    refine j_iload (p2 := 182) dT_fromTable_180 rfl rfl ?_
    refine j_dald (p2 := 183) dT_fromTable_182 rfl ly_12 (by decide) (by omega) (by omega) ?_
    refine j_callV (m' := mT_rounded) (As := [_]) (p2 := 186) dT_fromTable_183 rfl ml_T_74 ok_mT_rounded im_mT_rounded se_mT_rounded rfl rfl (Nat.le_of_ble_eq_true rfl) ly_56 rfl (Nat.le_of_ble_eq_true rfl) ⟨(Nat.le_of_ble_eq_true rfl), (Nat.le_of_ble_eq_true rfl)⟩ ?_
    refine cTt_rounded hfl (nx _ (by omega) (by omega)) ?_
    refine j_dload (p2 := 188) dT_fromTable_186 rfl rfl ?_
    refine j_dsub (p2 := 189) dT_fromTable_188 rfl (by rw [ek]; exact d3) ?_
    refine j_callV (m' := mT_rounded) (As := [_]) (p2 := 192) dT_fromTable_189 rfl ml_T_74 ok_mT_rounded im_mT_rounded se_mT_rounded rfl rfl (Nat.le_of_ble_eq_true rfl) ly_56 rfl (Nat.le_of_ble_eq_true rfl) ⟨(Nat.le_of_ble_eq_true rfl), (Nat.le_of_ble_eq_true rfl)⟩ ?_
    refine cTt_rounded hfl (by rw [ek]; exact d3) ?_
    refine j_dstore (p2 := 194) (lv' := [(0, _), (2, _), (6, _), (7, _), (9, _), (11, _)]) dT_fromTable_192 rfl (Nat.le_of_ble_eq_true rfl) ⟨rfl, rfl, rfl, rfl, rfl, rfl, trivial⟩ ?_
    refine j_aload_n (p2 := 195) dT_fromTable_194 rfl rfl ?_
    refine j_aload_n (p2 := 196) dT_fromTable_195 rfl rfl ?_
    refine j_aload_n (p2 := 197) dT_fromTable_196 rfl rfl ?_
    refine j_getR (p2 := 200) dT_fromTable_197 rfl fa_T_49 ly_56 rfl ?_
    refine j_getR (p2 := 203) dT_fromTable_200 rfl fa_T_203 ly_3 rfl ?_
    refine j_iload (p2 := 205) dT_fromTable_203 rfl rfl ?_
    refine j_dald (p2 := 206) dT_fromTable_205 rfl ly_13 (by decide) (by omega) (by omega) ?_
    refine j_callV (m' := mT_rounded) (As := [_]) (p2 := 209) dT_fromTable_206 rfl ml_T_74 ok_mT_rounded im_mT_rounded se_mT_rounded rfl rfl (Nat.le_of_ble_eq_true rfl) ly_56 rfl (Nat.le_of_ble_eq_true rfl) ⟨(Nat.le_of_ble_eq_true rfl), (Nat.le_of_ble_eq_true rfl)⟩ ?_
    refine cTt_rounded hfl (ny _ (by omega) (by omega)) ?_
    refine j_dload (p2 := 211) dT_fromTable_209 rfl rfl ?_
    refine j_dsub (p2 := 212) dT_fromTable_211 rfl (by rw [ek]; exact d2) ?_
    refine j_callV (m' := mT_rounded) (As := [_]) (p2 := 215) dT_fromTable_212 rfl ml_T_74 ok_mT_rounded im_mT_rounded se_mT_rounded rfl rfl (Nat.le_of_ble_eq_true rfl) ly_56 rfl (Nat.le_of_ble_eq_true rfl) ⟨(Nat.le_of_ble_eq_true rfl), (Nat.le_of_ble_eq_true rfl)⟩ ?_
    refine cTt_rounded hfl (by rw [ek]; exact d2) ?_
    refine j_dstore (p2 := 217) (lv' := [(0, _), (2, _), (7, _), (9, _), (11, _), (13, _)]) dT_fromTable_215 rfl (Nat.le_of_ble_eq_true rfl) ⟨rfl, rfl, rfl, rfl, rfl, rfl, trivial⟩ ?_
    refine J.loc (lv' := [(0, _), (2, _), (7, _), (9, _), (11, _), (13, _)]) ⟨rfl, rfl, rfl, rfl, rfl, rfl, trivial⟩ ?_
    rw [ek, e3, e2]
    exact at217
  have loop : ¬ (Acm arD a (X (8 * m)) = some .lt ∨ Acm arD a (X (8 * m)) = some .eq) → ¬ (Acm arD a (X (8 * m + hI σ 11 m - 1)) = some .gt ∨ Acm arD a (X (8 * m + hI σ 11 m - 1)) = some .eq) →
      ∀ (n : Nat) (k : Int), 8 * m ≤ k → k + 1 ≤ 8 * m + hI σ 11 m - 1 → 8 * m + hI σ 11 m - 1 - k ≤ n → K = gfk arD X a n k → J mT_fromTable 103 [(0, vR 56), (2, vD (cvD a)), (5, vI (8 * m + hI σ 11 m - 1)), (6, vI (k + 1))] [] σ Q := by
    intro c1 c2 n
    induction n with
    | zero => intro k h1 h2 h3; exact absurd h3 (by omega)
    | succ n ih =>
      intro k h1 h2 h3 h4
      have h4 : K = if Acm arD (X (k + 1)) a = some .lt ∨ Acm arD (X (k + 1)) a = some .eq then gfk arD X a n (k + 1) else k := h4
      have last : k + 1 = 8 * m + hI σ 11 m - 1 → ¬ (Acm arD (X (k + 1)) a = some .lt ∨ Acm arD (X (k + 1)) a = some .eq) := fun g q => by
        rw [g] at q
        rcases q with q | q
        · exact c2 (Or.inl (acm_swD q))
        · exact c2 (Or.inr (acm_swD q))
      have cxk := cx (k + 1) (by omega) (by omega)
      refine j_iload (p2 := 105) dT_fromTable_103 rfl rfl ?_
      refine j_iload (p2 := 107) dT_fromTable_105 rfl rfl ?_
      refine j_icmp_ge (p2 := 110) (tg := 135) dT_fromTable_107 rfl (by decide) (by constructor <;> omega) (by constructor <;> omega) (fun h107 => ?_) (fun h107 => ?_)
      · refine J.loc (lv' := [(0, _), (2, _), (6, _)]) ⟨rfl, rfl, rfl, trivial⟩ ?_
        first
          | exact fin c1 c2 k h1 h2 (h4.trans (if_neg (last (by omega))))
          | (rw [cxk] at h125
             exact fin c1 c2 k h1 h2 (h4.trans (if_neg h125)))
      · refine j_aload_n (p2 := 111) dT_fromTable_110 rfl rfl ?_
        refine j_aload_n (p2 := 112) dT_fromTable_111 rfl rfl ?_
        refine j_getR (p2 := 115) dT_fromTable_112 rfl fa_T_49 ly_56 rfl ?_
        refine j_getR (p2 := 118) dT_fromTable_115 rfl fa_T_200 ly_3 rfl ?_
        refine j_iload (p2 := 120) dT_fromTable_118 rfl rfl ?_
        refine j_dald (p2 := 121) dT_fromTable_120 rfl ly_12 (by decide) (by omega) (by omega) ?_
        refine j_callV (m' := mT_rounded) (As := [_]) (p2 := 124) dT_fromTable_121 rfl ml_T_74 ok_mT_rounded im_mT_rounded se_mT_rounded rfl rfl (Nat.le_of_ble_eq_true rfl) ly_56 rfl (Nat.le_of_ble_eq_true rfl) ⟨(Nat.le_of_ble_eq_true rfl), (Nat.le_of_ble_eq_true rfl)⟩ ?_
        refine cTt_rounded hfl (nx _ (by omega) (by omega)) ?_
        refine j_dload_n (p2 := 125) dT_fromTable_124 rfl rfl ?_
        refine j_dcmp_g_gt (p1 := 126) (p2 := 129) (tg := 135) dT_fromTable_125 rfl dT_fromTable_126 rfl (by decide) (fun h125 => ?_) (fun h125 => ?_)
        · refine J.loc (lv' := [(0, _), (2, _), (6, _)]) ⟨rfl, rfl, rfl, trivial⟩ ?_
          first
            | exact fin c1 c2 k h1 h2 (h4.trans (if_neg (last (by omega))))
            | (rw [cxk] at h125
               exact fin c1 c2 k h1 h2 (h4.trans (if_neg h125)))
        · refine j_iinc (p2 := 132) (lv' := [(0, _), (2, _), (5, _), (6, _)]) dT_fromTable_129 rfl (Nat.le_of_ble_eq_true rfl) rfl ⟨rfl, rfl, rfl, rfl, trivial⟩ ?_
          refine j_goto (p2 := 103) dT_fromTable_132 (by decide) ?_
          refine J.loc (lv' := [(0, _), (2, _), (5, _), (6, _)]) ⟨rfl, rfl, rfl, rfl, trivial⟩ ?_
          rw [cxk] at h125
          exact ih (k + 1) (by omega) (by omega) (by omega) (h4.trans (if_pos h125))
  have at6 : J mT_fromTable 6 [(0, vR 56), (1, vI m), (2, vD (cvD a)), (4, vI (8 * m))] [] σ Q := by
    have c0 := ca (8 * m) (by omega) (by omega)
    have cl := ca (8 * m + hI σ 11 m - 1) (by omega) (by omega)
    refine j_iload (p2 := 8) dT_fromTable_6 rfl rfl ?_
    refine j_aload_n (p2 := 9) dT_fromTable_8 rfl rfl ?_
    refine j_getR (p2 := 12) dT_fromTable_9 rfl fa_T_49 ly_56 rfl ?_
    refine j_getR (p2 := 15) dT_fromTable_12 rfl fa_T_197 ly_3 rfl ?_
    refine j_iload_n (p2 := 16) dT_fromTable_15 rfl rfl ?_
    refine j_iald (p2 := 17) dT_fromTable_16 rfl ly_11 (by decide) (by omega) (by omega) ?_
    refine j_iadd (p2 := 18) dT_fromTable_17 rfl ?_
    refine j_iconst (p2 := 19) dT_fromTable_18 rfl ?_
    refine j_isub (p2 := 20) dT_fromTable_19 rfl ?_
    refine j_istore (p2 := 22) (lv' := [(0, _), (2, _), (4, _), (5, _)]) dT_fromTable_20 rfl (Nat.le_of_ble_eq_true rfl) ⟨rfl, rfl, rfl, rfl, trivial⟩ ?_
    refine j_iload (p2 := 24) dT_fromTable_22 rfl rfl ?_
    refine j_iload (p2 := 26) dT_fromTable_24 rfl rfl ?_
    refine j_icmp_le (p2 := 29) (tg := 48) dT_fromTable_26 rfl (by decide) (by constructor <;> omega) (by constructor <;> omega) (fun h26 => ?_) (fun h26 => ?_)
    · refine j_aload_n (p2 := 49) dT_fromTable_48 rfl rfl ?_
      refine j_aload_n (p2 := 50) dT_fromTable_49 rfl rfl ?_
      refine j_getR (p2 := 53) dT_fromTable_50 rfl fa_T_49 ly_56 rfl ?_
      refine j_getR (p2 := 56) dT_fromTable_53 rfl fa_T_203 ly_3 rfl ?_
      refine j_iload (p2 := 58) dT_fromTable_56 rfl rfl ?_
      refine j_dald (p2 := 59) dT_fromTable_58 rfl ly_13 (by decide) (by omega) (by omega) ?_
      refine j_callV (m' := mT_rounded) (As := [_]) (p2 := 62) dT_fromTable_59 rfl ml_T_74 ok_mT_rounded im_mT_rounded se_mT_rounded rfl rfl (Nat.le_of_ble_eq_true rfl) ly_56 rfl (Nat.le_of_ble_eq_true rfl) ⟨(Nat.le_of_ble_eq_true rfl), (Nat.le_of_ble_eq_true rfl)⟩ ?_
      refine cTt_rounded hfl (ny _ (by omega) (by omega)) ?_
      refine j_dreturn dT_fromTable_62 rfl (by first | (exfalso; omega) | (rw [c0] at h44; rw [if_pos h44] at hQ; rw [ey]; exact hQ (fn_nnD (fy _ (by omega) (by omega)))))
    · refine j_dload_n (p2 := 30) dT_fromTable_29 rfl rfl ?_
      refine j_aload_n (p2 := 31) dT_fromTable_30 rfl rfl ?_
      refine j_aload_n (p2 := 32) dT_fromTable_31 rfl rfl ?_
      refine j_getR (p2 := 35) dT_fromTable_32 rfl fa_T_49 ly_56 rfl ?_
      refine j_getR (p2 := 38) dT_fromTable_35 rfl fa_T_200 ly_3 rfl ?_
      refine j_iload (p2 := 40) dT_fromTable_38 rfl rfl ?_
      refine j_dald (p2 := 41) dT_fromTable_40 rfl ly_12 (by decide) (by omega) (by omega) ?_
      refine j_callV (m' := mT_rounded) (As := [_]) (p2 := 44) dT_fromTable_41 rfl ml_T_74 ok_mT_rounded im_mT_rounded se_mT_rounded rfl rfl (Nat.le_of_ble_eq_true rfl) ly_56 rfl (Nat.le_of_ble_eq_true rfl) ⟨(Nat.le_of_ble_eq_true rfl), (Nat.le_of_ble_eq_true rfl)⟩ ?_
      refine cTt_rounded hfl (nx _ (by omega) (by omega)) ?_
      refine j_dcmp_g_gt (p1 := 45) (p2 := 48) (tg := 63) dT_fromTable_44 rfl dT_fromTable_45 rfl (by decide) (fun h44 => ?_) (fun h44 => ?_)
      · refine j_dload_n (p2 := 64) dT_fromTable_63 rfl rfl ?_
        refine j_aload_n (p2 := 65) dT_fromTable_64 rfl rfl ?_
        refine j_aload_n (p2 := 66) dT_fromTable_65 rfl rfl ?_
        refine j_getR (p2 := 69) dT_fromTable_66 rfl fa_T_49 ly_56 rfl ?_
        refine j_getR (p2 := 72) dT_fromTable_69 rfl fa_T_200 ly_3 rfl ?_
        refine j_iload (p2 := 74) dT_fromTable_72 rfl rfl ?_
        refine j_dald (p2 := 75) dT_fromTable_74 rfl ly_12 (by decide) (by omega) (by omega) ?_
        refine j_callV (m' := mT_rounded) (As := [_]) (p2 := 78) dT_fromTable_75 rfl ml_T_74 ok_mT_rounded im_mT_rounded se_mT_rounded rfl rfl (Nat.le_of_ble_eq_true rfl) ly_56 rfl (Nat.le_of_ble_eq_true rfl) ⟨(Nat.le_of_ble_eq_true rfl), (Nat.le_of_ble_eq_true rfl)⟩ ?_
        refine cTt_rounded hfl (nx _ (by omega) (by omega)) ?_
        refine j_dcmp_l_lt (p1 := 79) (p2 := 82) (tg := 97) dT_fromTable_78 rfl dT_fromTable_79 rfl (by decide) (fun h78 => ?_) (fun h78 => ?_)
        · refine j_iload (p2 := 99) dT_fromTable_97 rfl rfl ?_
          refine j_iconst (p2 := 100) dT_fromTable_99 rfl ?_
          refine j_iadd (p2 := 101) dT_fromTable_100 rfl ?_
          refine j_istore (p2 := 103) (lv' := [(0, _), (2, _), (5, _), (6, _)]) dT_fromTable_101 rfl (Nat.le_of_ble_eq_true rfl) ⟨rfl, rfl, rfl, rfl, trivial⟩ ?_
          refine J.loc (lv' := [(0, _), (2, _), (5, _), (6, _)]) ⟨rfl, rfl, rfl, rfl, trivial⟩ ?_
          rw [c0] at h44
          rw [cl] at h78
          exact loop h44 h78 8 (8 * m) (by omega) (by omega) (by omega) hKd
        · refine j_aload_n (p2 := 83) dT_fromTable_82 rfl rfl ?_
          refine j_aload_n (p2 := 84) dT_fromTable_83 rfl rfl ?_
          refine j_getR (p2 := 87) dT_fromTable_84 rfl fa_T_49 ly_56 rfl ?_
          refine j_getR (p2 := 90) dT_fromTable_87 rfl fa_T_203 ly_3 rfl ?_
          refine j_iload (p2 := 92) dT_fromTable_90 rfl rfl ?_
          refine j_dald (p2 := 93) dT_fromTable_92 rfl ly_13 (by decide) (by omega) (by omega) ?_
          refine j_callV (m' := mT_rounded) (As := [_]) (p2 := 96) dT_fromTable_93 rfl ml_T_74 ok_mT_rounded im_mT_rounded se_mT_rounded rfl rfl (Nat.le_of_ble_eq_true rfl) ly_56 rfl (Nat.le_of_ble_eq_true rfl) ⟨(Nat.le_of_ble_eq_true rfl), (Nat.le_of_ble_eq_true rfl)⟩ ?_
          refine cTt_rounded hfl (ny _ (by omega) (by omega)) ?_
          refine j_dreturn dT_fromTable_96 rfl (by rw [c0] at h44; rw [cl] at h78; rw [if_neg h44, if_pos h78] at hQ; rw [ey]; exact hQ (fn_nnD (fy _ (by omega) (by omega))))
      · refine j_aload_n (p2 := 49) dT_fromTable_48 rfl rfl ?_
        refine j_aload_n (p2 := 50) dT_fromTable_49 rfl rfl ?_
        refine j_getR (p2 := 53) dT_fromTable_50 rfl fa_T_49 ly_56 rfl ?_
        refine j_getR (p2 := 56) dT_fromTable_53 rfl fa_T_203 ly_3 rfl ?_
        refine j_iload (p2 := 58) dT_fromTable_56 rfl rfl ?_
        refine j_dald (p2 := 59) dT_fromTable_58 rfl ly_13 (by decide) (by omega) (by omega) ?_
        refine j_callV (m' := mT_rounded) (As := [_]) (p2 := 62) dT_fromTable_59 rfl ml_T_74 ok_mT_rounded im_mT_rounded se_mT_rounded rfl rfl (Nat.le_of_ble_eq_true rfl) ly_56 rfl (Nat.le_of_ble_eq_true rfl) ⟨(Nat.le_of_ble_eq_true rfl), (Nat.le_of_ble_eq_true rfl)⟩ ?_
        refine cTt_rounded hfl (ny _ (by omega) (by omega)) ?_
        refine j_dreturn dT_fromTable_62 rfl (by first | (exfalso; omega) | (rw [c0] at h44; rw [if_pos h44] at hQ; rw [ey]; exact hQ (fn_nnD (fy _ (by omega) (by omega)))))
  refine j_iload_n (p2 := 1) dT_fromTable_0 rfl rfl ?_
  refine j_bipush (v := 8) (p2 := 3) dT_fromTable_1 rfl rfl ?_
  refine j_imul (p2 := 4) dT_fromTable_3 rfl ?_
  refine j_istore (p2 := 6) (lv' := [(0, _), (1, _), (2, _), (4, _)]) dT_fromTable_4 rfl (Nat.le_of_ble_eq_true rfl) ⟨rfl, rfl, rfl, rfl, trivial⟩ ?_
  refine J.loc (lv' := [(0, _), (1, _), (2, _), (4, _)]) ⟨rfl, rfl, rfl, rfl, trivial⟩ ?_
  rw [em]
  exact at6
end TWC3
