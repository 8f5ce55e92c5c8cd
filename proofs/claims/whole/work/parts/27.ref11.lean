/-! ===== a step of the reference: adding rates, weighing, differing ===== -/
def gwg {α : Type} (A : Ar α) (a b c d : α) : α := Adiv A (Aadd A (Aadd A (Aadd A a (Amul A (Ac A 5) b)) (Amul A (Ac A 5) c)) d) (Ac A 6)
theorem gwg_D (a b c d : UInt64) : gwg arD a b c d = FP.ddiv (FP.dadd (FP.dadd (FP.dadd a (FP.dmul 4611686018427387904 b)) (FP.dmul 4611686018427387904 c)) d) 4618441417868443648 := rfl
theorem gwg_F (a b c d : UInt32) : gwg arF a b c d = FP.fdiv (FP.fadd (FP.fadd (FP.fadd a (FP.fmul FP.fconst2 b)) (FP.fmul FP.fconst2 c)) d) 1086324736 := rfl
theorem nz6D : ¬ FP.dcmp 4618441417868443648 FP.dconst0 = some .eq := by decide +kernel
theorem nz6F : ¬ FP.fcmp 1086324736 FP.fconst0 = some .eq := by decide +kernel
theorem mg_c2 : mg 4611686018427387904 1025 := by unfold mg; decide
theorem mf_c2 : mf FP.fconst2 129 := by unfold mf; decide
theorem mg_c6 : mg 4618441417868443648 1026 := by unfold mg; decide
theorem mf_c6 : mf 1086324736 130 := by unfold mf; decide
theorem mg_div6 {a : UInt64} {K : Nat} (h : mg a K) (hK : K ≤ 2047) : mg (FP.ddiv a 4618441417868443648) (K + 1021 - 1025 + 3) := FP.Core.ddiv_mag (L := 1025) h (by decide) (by decide) hK (by decide)
theorem mf_div6 {a : UInt32} {K : Nat} (h : mf a K) (hK : K ≤ 255) : mf (FP.fdiv a 1086324736) (K + 125 - 129 + 3) := FP.Core.fdiv_mag (L := 129) h (by decide) (by decide) hK (by decide)
/-- the bounds on the way -/
theorem gwg_obD {a b c d : UInt64} (ha : mg a 1036) (hb : mg b 1036) (hc : mg c 1036) (hd : mg d 1036) :
    vf_n64 (FP.dmul 4611686018427387904 b) ∧ vf_n64 (FP.dadd a (FP.dmul 4611686018427387904 b)) ∧ vf_n64 (FP.dmul 4611686018427387904 c) ∧ vf_n64 (FP.dadd (FP.dadd a (FP.dmul 4611686018427387904 b)) (FP.dmul 4611686018427387904 c)) ∧ vf_n64 (FP.dadd (FP.dadd (FP.dadd a (FP.dmul 4611686018427387904 b)) (FP.dmul 4611686018427387904 c)) d) ∧ vf_n64 (gwg arD a b c d) ∧ mg (gwg arD a b c d) 1060 := by
  have q1 := mg_mul mg_c2 hb (by decide) (by decide)
  have q2 := mg_add (ha.mono (show _ ≤ 1040 by decide)) (q1.mono (by decide)) (by decide)
  have q3 := mg_mul mg_c2 hc (by decide) (by decide)
  have q4 := mg_add (q2.mono (show _ ≤ 1043 by decide)) (q3.mono (by decide)) (by decide)
  have q5 := mg_add (q4.mono (show _ ≤ 1046 by decide)) (hd.mono (by decide)) (by decide)
  have q6 := mg_div6 q5 (by decide)
  exact ⟨q1.nn (by decide), q2.nn (by decide), q3.nn (by decide), q4.nn (by decide), q5.nn (by decide), q6.nn (by decide), q6.mono (by decide)⟩
theorem gwg_obF {a b c d : UInt32} (ha : mf a 140) (hb : mf b 140) (hc : mf c 140) (hd : mf d 140) :
    vf_n32 (FP.fmul FP.fconst2 b) ∧ vf_n32 (FP.fadd a (FP.fmul FP.fconst2 b)) ∧ vf_n32 (FP.fmul FP.fconst2 c) ∧ vf_n32 (FP.fadd (FP.fadd a (FP.fmul FP.fconst2 b)) (FP.fmul FP.fconst2 c)) ∧ vf_n32 (FP.fadd (FP.fadd (FP.fadd a (FP.fmul FP.fconst2 b)) (FP.fmul FP.fconst2 c)) d) ∧ vf_n32 (gwg arF a b c d) ∧ mf (gwg arF a b c d) 160 := by
  have q1 := mf_mul2 mf_c2 hb (by decide) (by decide)
  have q2 := mf_add (ha.mono (show _ ≤ 144 by decide)) (q1.mono (by decide)) (by decide)
  have q3 := mf_mul2 mf_c2 hc (by decide) (by decide)
  have q4 := mf_add (q2.mono (show _ ≤ 147 by decide)) (q3.mono (by decide)) (by decide)
  have q5 := mf_add (q4.mono (show _ ≤ 150 by decide)) (hd.mono (by decide)) (by decide)
  have q6 := mf_div6 q5 (by decide)
  exact ⟨q1.nn (by decide), q2.nn (by decide), q3.nn (by decide), q4.nn (by decide), q5.nn (by decide), q6.nn (by decide), q6.mono (by decide)⟩
/-- rates c, d of the modules below N are no larger -/
abbrev Rb (σ : Hp) (c d : Nat) (N : Nat) : Prop := ∀ m : Int, 0 ≤ m → m < N → mg (hD σ c m) 1036 ∧ mf (hF σ d m) 140
section REF11
variable {σ : Hp} {Q : Option PV → Hp → Prop}
def adH (σ : Hp) (N : Nat) : Hp := wF (wD σ 115 (pw (hD σ 115) (fun m => Aadd arD (hD σ 105 m) (hD σ 115 m)) N)) 116 (pw (hF σ 116) (fun m => Aadd arF (hF σ 109 m) (hF σ 116 m)) N)
theorem adH_0 : adH σ 0 = σ := by unfold adH; rw [pw_0, pw_0, wD_id]; exact wF_id σ 116
theorem st_B {N : Nat} {t : UInt64} (hN : hI σ 69 0 = N ∧ N ≤ 20) (h1 : Rb σ 105 109 N) (h2 : Rb σ 115 116 N) (k : J mM_step 256 [(0, vR 69), (1, vD t)] [] (adH σ N) Q) : J mM_step 204 [(0, vR 69), (1, vD t), (3, vI 0)] [] σ Q := by
  obtain ⟨hN, hN2⟩ := hN
  have loop : ∀ (n i : Nat), i ≤ N → N + 1 ≤ i + n → J mM_step 204 [(0, vR 69), (1, vD t), (3, vI i)] [] (adH σ i) Q := by
    intro n
    induction n with
    | zero => intro i h1 h2; exact absurd h2 (by omega)
    | succ n ih =>
      intro i hi1 hi2
      have eN : hI (adH σ i) 69 0 = N := hN
      have ih2 : i < N → J mM_step 204 [(0, vR 69), (1, vD t), (3, vI (i + 1))] [] (adH σ (i + 1)) Q := fun h => ih (i + 1) (by omega) (by omega)
      have eR : hD (adH σ i) 115 i = hD σ 115 i := pw_at (hD σ 115) (fun m => Aadd arD (hD σ 105 m) (hD σ 115 m)) i
      have eS : hF (adH σ i) 116 i = hF σ 116 i := pw_at (hF σ 116) (fun m => Aadd arF (hF σ 109 m) (hF σ 116 m)) i
      have yes : adH σ (i + 1) = wF (wD (adH σ i) 115 (fup (hD (adH σ i) 115) i (FP.dadd (hD σ 105 i) (hD (adH σ i) 115 i)))) 116 (fup (hF (adH σ i) 116) i (FP.fadd (hF σ 109 i) (hF (adH σ i) 116 i))) := by
        rw [eR, eS]
        unfold adH
        rw [wDF_s, ← pw_s, ← pw_s]
        rfl
      have ob : i < N → vf_n64 (FP.dadd (hD σ 105 i) (hD (adH σ i) 115 i)) ∧ vf_n32 (FP.fadd (hF σ 109 i) (hF (adH σ i) 116 i)) := fun h => by
        rw [eR, eS]
        have a1 := h1 i (by omega) (by omega)
        have a2 := h2 i (by omega) (by omega)
        exact ⟨(mg_add a1.1 a2.1 (by decide)).nn (by decide), (mf_add a1.2 a2.2 (by decide)).nn (by decide)⟩
      refine j_iload_n (p2 := 205) dM_step_204 rfl rfl ?_
      refine j_aload_n (p2 := 206) dM_step_205 rfl rfl ?_
      refine j_getIk (p2 := 209) dM_step_206 rfl fa_M_158 ly_69 rfl (ki := 0) rfl ?_
      refine j_icmp_ge (p2 := 212) (tg := 256) dM_step_209 rfl (by decide) (by constructor <;> omega) (by rw [eN]; constructor <;> omega) (fun h209 => ?_) (fun h209 => ?_)
      · refine J.loc (lv' := [(0, _), (1, _)]) ⟨rfl, rfl, trivial⟩ ?_
        rw [eN] at h209
        have e : i = N := by omega
        subst e
        exact k
      · refine j_aload_n (p2 := 213) dM_step_212 rfl rfl ?_
        refine j_getR (p2 := 216) dM_step_213 rfl fa_M_152 ly_69 rfl ?_
        refine j_iload_n (p2 := 217) dM_step_216 rfl rfl ?_
        refine j_aload_n (p2 := 218) dM_step_217 rfl rfl ?_
        refine j_getR (p2 := 221) dM_step_218 rfl fa_M_122 ly_69 rfl ?_
        refine j_iload_n (p2 := 222) dM_step_221 rfl rfl ?_
        refine j_dald (p2 := 223) dM_step_222 rfl ly_105 (by decide) (by omega) (by rw [eN] at h209; omega) ?_
        refine j_aload_n (p2 := 224) dM_step_223 rfl rfl ?_
        refine j_getR (p2 := 227) dM_step_224 rfl fa_M_152 ly_69 rfl ?_
        refine j_iload_n (p2 := 228) dM_step_227 rfl rfl ?_
        refine j_dald (p2 := 229) dM_step_228 rfl ly_115 (by decide) (by omega) (by rw [eN] at h209; omega) ?_
        refine j_dadd (p2 := 230) dM_step_229 rfl (by rw [eN] at h209; exact (ob (by omega)).1) ?_
        refine j_dastk (p2 := 231) dM_step_230 rfl ly_115 (by decide) (by omega) (by rw [eN] at h209; omega) ?_
        refine j_aload_n (p2 := 232) dM_step_231 rfl rfl ?_
        refine j_getR (p2 := 235) dM_step_232 rfl fa_M_155 ly_69 rfl ?_
        refine j_iload_n (p2 := 236) dM_step_235 rfl rfl ?_
        refine j_aload_n (p2 := 237) dM_step_236 rfl rfl ?_
        refine j_getR (p2 := 240) dM_step_237 rfl fa_M_134 ly_69 rfl ?_
        refine j_iload_n (p2 := 241) dM_step_240 rfl rfl ?_
        refine j_fald (p2 := 242) dM_step_241 rfl ly_109 (by decide) (by omega) (by rw [eN] at h209; omega) ?_
        refine j_aload_n (p2 := 243) dM_step_242 rfl rfl ?_
        refine j_getR (p2 := 246) dM_step_243 rfl fa_M_155 ly_69 rfl ?_
        refine j_iload_n (p2 := 247) dM_step_246 rfl rfl ?_
        refine j_fald (p2 := 248) dM_step_247 rfl ly_116 (by decide) (by omega) (by rw [eN] at h209; omega) ?_
        refine j_fadd (p2 := 249) dM_step_248 rfl (by rw [eN] at h209; exact (ob (by omega)).2) ?_
        refine j_fastk (p2 := 250) dM_step_249 rfl ly_116 (by decide) (by omega) (by rw [eN] at h209; omega) ?_
        refine j_iinc (p2 := 253) (lv' := [(0, _), (1, _), (3, _)]) dM_step_250 rfl (Nat.le_of_ble_eq_true rfl) rfl ⟨rfl, rfl, rfl, trivial⟩ ?_
        refine j_goto (p2 := 204) dM_step_253 (by decide) ?_
        refine J.loc (lv' := [(0, _), (1, _), (3, _)]) ⟨rfl, rfl, rfl, trivial⟩ ?_
        rw [eN] at h209
        exact (ih2 (by omega)).hp yes
  exact (loop (N + 1) 0 (by omega) (by omega)).hp adH_0
def wgH (σ : Hp) (N : Nat) : Hp := wF (wD σ 115 (pw (hD σ 115) (fun m => gwg arD (hD σ 105 m) (hD σ 106 m) (hD σ 107 m) (hD σ 115 m)) N)) 116 (pw (hF σ 116) (fun m => gwg arF (hF σ 109 m) (hF σ 110 m) (hF σ 111 m) (hF σ 116 m)) N)
theorem wgH_0 : wgH σ 0 = σ := by unfold wgH; rw [pw_0, pw_0, wD_id]; exact wF_id σ 116
theorem st_C {N : Nat} {t : UInt64} (hN : hI σ 69 0 = N ∧ N ≤ 20) (h1 : Rb σ 105 109 N) (h2 : Rb σ 106 110 N) (h3 : Rb σ 107 111 N) (h4 : Rb σ 115 116 N) (k : J mM_step 451 [(0, vR 69), (1, vD t)] [] (wgH σ N) Q) : J mM_step 327 [(0, vR 69), (1, vD t), (3, vI 0)] [] σ Q := by
  obtain ⟨hN, hN2⟩ := hN
  have loop : ∀ (n i : Nat), i ≤ N → N + 1 ≤ i + n → J mM_step 327 [(0, vR 69), (1, vD t), (3, vI i)] [] (wgH σ i) Q := by
    intro n
    induction n with
    | zero => intro i h1 h2; exact absurd h2 (by omega)
    | succ n ih =>
      intro i hi1 hi2
      have eN : hI (wgH σ i) 69 0 = N := hN
      have ih2 : i < N → J mM_step 327 [(0, vR 69), (1, vD t), (3, vI (i + 1))] [] (wgH σ (i + 1)) Q := fun h => ih (i + 1) (by omega) (by omega)
      have eR : hD (wgH σ i) 115 i = hD σ 115 i := pw_at (hD σ 115) (fun m => gwg arD (hD σ 105 m) (hD σ 106 m) (hD σ 107 m) (hD σ 115 m)) i
      have eS : hF (wgH σ i) 116 i = hF σ 116 i := pw_at (hF σ 116) (fun m => gwg arF (hF σ 109 m) (hF σ 110 m) (hF σ 111 m) (hF σ 116 m)) i
      have yes : wgH σ (i + 1) = wF (wD (wgH σ i) 115 (fup (hD (wgH σ i) 115) i (gwg arD (hD σ 105 i) (hD σ 106 i) (hD σ 107 i) (hD (wgH σ i) 115 i)))) 116 (fup (hF (wgH σ i) 116) i (gwg arF (hF σ 109 i) (hF σ 110 i) (hF σ 111 i) (hF (wgH σ i) 116 i))) := by
        rw [eR, eS]
        unfold wgH
        rw [wDF_s, ← pw_s, ← pw_s]
        rfl
      have obD : i < N → _ := fun h => gwg_obD (h1 i (by omega) (by omega)).1 (h2 i (by omega) (by omega)).1 (h3 i (by omega) (by omega)).1 (h4 i (by omega) (by omega)).1
      have obF : i < N → _ := fun h => gwg_obF (h1 i (by omega) (by omega)).2 (h2 i (by omega) (by omega)).2 (h3 i (by omega) (by omega)).2 (h4 i (by omega) (by omega)).2
      rw [← eR] at obD
      rw [← eS] at obF
      refine j_iload_n (p2 := 328) dM_step_327 rfl rfl ?_
      refine j_aload_n (p2 := 329) dM_step_328 rfl rfl ?_
      refine j_getIk (p2 := 332) dM_step_329 rfl fa_M_158 ly_69 rfl (ki := 0) rfl ?_
      refine j_icmp_ge (p2 := 335) (tg := 451) dM_step_332 rfl (by decide) (by constructor <;> omega) (by rw [eN]; constructor <;> omega) (fun h332 => ?_) (fun h332 => ?_)
      · refine J.loc (lv' := [(0, _), (1, _)]) ⟨rfl, rfl, trivial⟩ ?_
        rw [eN] at h332
        have e : i = N := by omega
        subst e
        exact k
      · refine J.loc (lv' := [(0, _), (1, _), (3, _)]) ⟨rfl, rfl, rfl, trivial⟩ ?_
        rw [eN] at h332
        obtain ⟨o1, o2, o3, o4, o5, o6, o7⟩ := obD (by omega)
        obtain ⟨p1, p2, p3, p4, p5, p6, p7⟩ := obF (by omega)
        rw [gwg_D] at o6
        rw [gwg_F] at p6
        rw [gwg_D, gwg_F] at yes
        refine j_aload_n (p2 := 336) dM_step_335 rfl rfl ?_
        refine j_getR (p2 := 339) dM_step_336 rfl fa_M_122 ly_69 rfl ?_
        refine j_iload_n (p2 := 340) dM_step_339 rfl rfl ?_
        refine j_dald (p2 := 341) dM_step_340 rfl ly_105 (by decide) (by omega) (by omega) ?_
        refine j_ldc2d (p2 := 344) dM_step_341 rfl cw_M_314 ?_
        refine j_aload_n (p2 := 345) dM_step_344 rfl rfl ?_
        refine j_getR (p2 := 348) dM_step_345 rfl fa_M_125 ly_69 rfl ?_
        refine j_iload_n (p2 := 349) dM_step_348 rfl rfl ?_
        refine j_dald (p2 := 350) dM_step_349 rfl ly_106 (by decide) (by omega) (by omega) ?_
        refine j_dmul (p2 := 351) dM_step_350 rfl o1 ?_
        refine j_dadd (p2 := 352) dM_step_351 rfl o2 ?_
        refine j_dstore (p2 := 354) (lv' := [(0, _), (1, _), (3, _), (4, _)]) dM_step_352 rfl (Nat.le_of_ble_eq_true rfl) ⟨rfl, rfl, rfl, rfl, trivial⟩ ?_
        refine j_dload (p2 := 356) dM_step_354 rfl rfl ?_
        refine j_ldc2d (p2 := 359) dM_step_356 rfl cw_M_314 ?_
        refine j_aload_n (p2 := 360) dM_step_359 rfl rfl ?_
        refine j_getR (p2 := 363) dM_step_360 rfl fa_M_128 ly_69 rfl ?_
        refine j_iload_n (p2 := 364) dM_step_363 rfl rfl ?_
        refine j_dald (p2 := 365) dM_step_364 rfl ly_107 (by decide) (by omega) (by omega) ?_
        refine j_dmul (p2 := 366) dM_step_365 rfl o3 ?_
        refine j_dadd (p2 := 367) dM_step_366 rfl o4 ?_
        refine j_dstore (p2 := 369) (lv' := [(0, _), (1, _), (3, _), (4, _)]) dM_step_367 rfl (Nat.le_of_ble_eq_true rfl) ⟨rfl, rfl, rfl, rfl, trivial⟩ ?_
        refine j_dload (p2 := 371) dM_step_369 rfl rfl ?_
        refine j_aload_n (p2 := 372) dM_step_371 rfl rfl ?_
        refine j_getR (p2 := 375) dM_step_372 rfl fa_M_152 ly_69 rfl ?_
        refine j_iload_n (p2 := 376) dM_step_375 rfl rfl ?_
        refine j_dald (p2 := 377) dM_step_376 rfl ly_115 (by decide) (by omega) (by omega) ?_
        refine j_dadd (p2 := 378) dM_step_377 rfl o5 ?_
        refine j_dstore (p2 := 380) (lv' := [(0, _), (1, _), (3, _), (4, _)]) dM_step_378 rfl (Nat.le_of_ble_eq_true rfl) ⟨rfl, rfl, rfl, rfl, trivial⟩ ?_
        refine j_aload_n (p2 := 381) dM_step_380 rfl rfl ?_
        refine j_getR (p2 := 384) dM_step_381 rfl fa_M_152 ly_69 rfl ?_
        refine j_iload_n (p2 := 385) dM_step_384 rfl rfl ?_
        refine j_dload (p2 := 387) dM_step_385 rfl rfl ?_
        refine j_ldc2d (p2 := 390) dM_step_387 rfl cw_M_316 ?_
        refine j_ddiv (p2 := 391) dM_step_390 rfl o6 ?_
        refine j_dastk (p2 := 392) dM_step_391 rfl ly_115 (by decide) (by omega) (by omega) ?_
        refine j_aload_n (p2 := 393) dM_step_392 rfl rfl ?_
        refine j_getR (p2 := 396) dM_step_393 rfl fa_M_134 ly_69 rfl ?_
        refine j_iload_n (p2 := 397) dM_step_396 rfl rfl ?_
        refine j_fald (p2 := 398) dM_step_397 rfl ly_109 (by decide) (by omega) (by omega) ?_
        refine j_fconst2 (p2 := 399) dM_step_398 rfl ?_
        refine j_aload_n (p2 := 400) dM_step_399 rfl rfl ?_
        refine j_getR (p2 := 403) dM_step_400 rfl fa_M_137 ly_69 rfl ?_
        refine j_iload_n (p2 := 404) dM_step_403 rfl rfl ?_
        refine j_fald (p2 := 405) dM_step_404 rfl ly_110 (by decide) (by omega) (by omega) ?_
        refine j_fmul (p2 := 406) dM_step_405 rfl p1 ?_
        refine j_fadd (p2 := 407) dM_step_406 rfl p2 ?_
        refine j_fstore (p2 := 409) (lv' := [(0, _), (1, _), (3, _), (6, _)]) dM_step_407 rfl (Nat.le_of_ble_eq_true rfl) ⟨rfl, rfl, rfl, rfl, trivial⟩ ?_
        refine j_fload (p2 := 411) dM_step_409 rfl rfl ?_
        refine j_fconst2 (p2 := 412) dM_step_411 rfl ?_
        refine j_aload_n (p2 := 413) dM_step_412 rfl rfl ?_
        refine j_getR (p2 := 416) dM_step_413 rfl fa_M_140 ly_69 rfl ?_
        refine j_iload_n (p2 := 417) dM_step_416 rfl rfl ?_
        refine j_fald (p2 := 418) dM_step_417 rfl ly_111 (by decide) (by omega) (by omega) ?_
        refine j_fmul (p2 := 419) dM_step_418 rfl p3 ?_
        refine j_fadd (p2 := 420) dM_step_419 rfl p4 ?_
        refine j_fstore (p2 := 422) (lv' := [(0, _), (1, _), (3, _), (6, _)]) dM_step_420 rfl (Nat.le_of_ble_eq_true rfl) ⟨rfl, rfl, rfl, rfl, trivial⟩ ?_
        refine j_fload (p2 := 424) dM_step_422 rfl rfl ?_
        refine j_aload_n (p2 := 425) dM_step_424 rfl rfl ?_
        refine j_getR (p2 := 428) dM_step_425 rfl fa_M_155 ly_69 rfl ?_
        refine j_iload_n (p2 := 429) dM_step_428 rfl rfl ?_
        refine j_fald (p2 := 430) dM_step_429 rfl ly_116 (by decide) (by omega) (by omega) ?_
        refine j_fadd (p2 := 431) dM_step_430 rfl p5 ?_
        refine j_fstore (p2 := 433) (lv' := [(0, _), (1, _), (3, _), (6, _)]) dM_step_431 rfl (Nat.le_of_ble_eq_true rfl) ⟨rfl, rfl, rfl, rfl, trivial⟩ ?_
        refine j_aload_n (p2 := 434) dM_step_433 rfl rfl ?_
        refine j_getR (p2 := 437) dM_step_434 rfl fa_M_155 ly_69 rfl ?_
        refine j_iload_n (p2 := 438) dM_step_437 rfl rfl ?_
        refine j_fload (p2 := 440) dM_step_438 rfl rfl ?_
        refine j_ldcwf (p2 := 443) dM_step_440 rfl cw_M_318 ?_
        refine j_fdiv (p2 := 444) dM_step_443 rfl p6 ?_
        refine j_fastk (p2 := 445) dM_step_444 rfl ly_116 (by decide) (by omega) (by omega) ?_
        refine j_iinc (p2 := 448) (lv' := [(0, _), (1, _), (3, _)]) dM_step_445 rfl (Nat.le_of_ble_eq_true rfl) rfl ⟨rfl, rfl, rfl, trivial⟩ ?_
        refine j_goto (p2 := 327) dM_step_448 (by decide) ?_
        refine J.loc (lv' := [(0, _), (1, _), (3, _)]) ⟨rfl, rfl, rfl, trivial⟩ ?_
        exact (ih2 (by omega)).hp yes
  exact (loop (N + 1) 0 (by omega) (by omega)).hp wgH_0
def dfH (σ : Hp) (N : Nat) : Hp := wD σ 88 (pw (hD σ 88) (fun m => gdf (hD σ 82 m) (hF σ 83 m) (hD σ 88 m)) N)
theorem dfH_0 : dfH σ 0 = σ := by unfold dfH; rw [pw_0, wD_id]
theorem st_D {N : Nat} (hN : hI σ 69 0 = N ∧ N ≤ 20) (hr : ∀ k : Int, 0 ≤ k → k < 20 → mg (hD σ 82 k) 1024 ∧ mf (hF σ 83 k) 128) (hQ : Q none (dfH σ N)) : J mM_step 476 [(0, vR 69), (3, vI 0)] [] σ Q := by
  obtain ⟨hN, hN2⟩ := hN
  have loop : ∀ (n i : Nat), i ≤ N → N + 1 ≤ i + n → J mM_step 476 [(0, vR 69), (3, vI i)] [] (dfH σ i) Q := by
    intro n
    induction n with
    | zero => intro i h1 h2; exact absurd h2 (by omega)
    | succ n ih =>
      intro i hi1 hi2
      have eN : hI (dfH σ i) 69 0 = N := hN
      have ih2 : i < N → J mM_step 476 [(0, vR 69), (3, vI (i + 1))] [] (dfH σ (i + 1)) Q := fun h => ih (i + 1) (by omega) (by omega)
      have eR : hD (dfH σ i) 88 i = hD σ 88 i := pw_at (hD σ 88) (fun m => gdf (hD σ 82 m) (hF σ 83 m) (hD σ 88 m)) i
      have yes : dfH σ (i + 1) = wD (dfH σ i) 88 (fup (hD (dfH σ i) 88) i (gdf (hD σ 82 i) (hF σ 83 i) (hD (dfH σ i) 88 i))) := by
        rw [eR]
        unfold dfH
        rw [wD_wD, ← pw_s]
        rfl
      refine j_iload_n (p2 := 477) dM_step_476 rfl rfl ?_
      refine j_aload_n (p2 := 478) dM_step_477 rfl rfl ?_
      refine j_getIk (p2 := 481) dM_step_478 rfl fa_M_158 ly_69 rfl (ki := 0) rfl ?_
      refine j_icmp_ge (p2 := 484) (tg := 495) dM_step_481 rfl (by decide) (by constructor <;> omega) (by rw [eN]; constructor <;> omega) (fun h481 => ?_) (fun h481 => ?_)
      · refine j_return dM_step_495 rfl (by rw [eN] at h481; have e : i = N := (by omega); subst e; exact hQ)
      · refine j_aload_n (p2 := 485) dM_step_484 rfl rfl ?_
        refine j_iload_n (p2 := 486) dM_step_485 rfl rfl ?_
        refine j_callV (m' := mM_differ) (As := [_]) (p2 := 489) dM_step_486 rfl ml_M_325 ok_mM_differ im_mM_differ se_mM_differ rfl rfl (Nat.le_of_ble_eq_true rfl) ly_69 rfl (Nat.le_of_ble_eq_true rfl) ⟨(Nat.le_of_ble_eq_true rfl), (Nat.le_of_ble_eq_true rfl)⟩ ?_
        rw [eN] at h481
        refine cM_differ (by omega) (hr i (by omega) (by omega)).1 (hr i (by omega) (by omega)).2 ?_
        refine j_iinc (p2 := 492) (lv' := [(0, _), (3, _)]) dM_step_489 rfl (Nat.le_of_ble_eq_true rfl) rfl ⟨rfl, rfl, trivial⟩ ?_
        refine j_goto (p2 := 476) dM_step_492 (by decide) ?_
        refine J.loc (lv' := [(0, _), (3, _)]) ⟨rfl, rfl, trivial⟩ ?_
        exact (ih2 (by omega)).hp yes
  exact (loop (N + 1) 0 (by omega) (by omega)).hp dfH_0
end REF11
