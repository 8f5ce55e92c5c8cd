/-! ===== the reference: sweep ===== -/
theorem finL_iff {x : Int64} : (x &&& 9223372036854775807) < 9218868437227405312 ↔ finL x := by
  obtain ⟨n, hn, e⟩ := wb_of x
  subst e
  have e1 : lN n &&& (9223372036854775807 : Int64) = lN (n % 2 ^ 63) := g_mask (p := 2 ^ 63) rfl (by decide) hn
  have e2 : (9218868437227405312 : Int64) = lN 9218868437227405312 := by decide +kernel
  have e3 : (lN n).toUInt64.toNat = n := by
    show (lN n).toBitVec.toNat = n
    exact wb_tn hn
  unfold finL
  rw [e1, e2, lN_lt63 (by omega) (by decide), e3]
theorem finL_num {x : Int64} (h : finL x) : isNum x := isNum_iff.mpr (by unfold finL at h; omega)
theorem finL_dec {x : Int64} (h : finL x) : dec x = x.toUInt64 := if_pos h
/-- what a sweep wants -/
abbrev SwC (kd : Int) (x y : Int64) (c n : Int) : Prop := ((1 ≤ c ∧ c ≤ 6) ∧ 1 ≤ n ∧ n ≤ 40) ∧ finL x ∧ finL y ∧ ∀ j : Nat, (j : Int) < c → isSet kd (swv x.toUInt64 y.toUInt64 j) = true
section RSW
variable {σ : Hp} {Q : Option PV → Hp → Prop} {N : Nat}
def swX (σ : Hp) (m : Int) (v : UInt64) : Hp := wD σ 71 (fup (hD σ 71) m v)
def swY (σ : Hp) (q j : Int) : Hp := wD σ 103 (fup (hD σ 103) j (hD σ 82 q))
def swS (σ : Hp) (N k : Nat) (m q : Int) (x y : UInt64) (n : Nat) : Nat → Hp
  | 0 => σ
  | j + 1 => swY (trH (swX (swS σ N k m q x y n j) m (swv x y j)) N n (lenD k)) q j
def swK (σ : Hp) (m : Int) : Hp := wD (kpH σ) 69 (fup (hD (kpH σ) 69) 59 (hD (kpH σ) 71 m))
def swE (σ : Hp) (m c : Int) : Hp := wI (bkH (wD σ 71 (fup (hD σ 71) m (hD σ 69 59)))) 69 (fup (hI (bkH (wD σ 71 (fup (hD σ 71) m (hD σ 69 59)))) 69) 41 c)
theorem WP.set {m : Int} {v : UInt64} (h : WP σ N) (hv : vf_n64 v) (hs : isSet (hI σ 70 m) v = true) : WP (swX σ m v) N := by
  obtain ⟨a1, a2, a3, a4⟩ := h
  refine ⟨a1, a2, a3, fun m' x y => ?_⟩
  obtain ⟨⟨g1, g2, g3, g4, g5, g6, g7⟩, ⟨p1, p2⟩, b⟩ := a4 m' x y
  have e : hD (swX σ m v) 71 m' = fup (hD σ 71) m v m' := rfl
  by_cases z : m' = m
  · subst z
    have e1 : hD (swX σ m' v) 71 m' = v := by rw [e, fup_s]
    refine ⟨⟨g1, g2, g3, g4, g5, fun k => ?_, ?_⟩, ⟨p1, fun k => ⟨(p2 k).1, ?_⟩⟩, b⟩
    · rw [e1]; exact (set_bdD hv hs k).1
    · rw [e1]; exact hv
    · have k : hI σ 70 m' = 11 := k
      rw [k] at hs
      unfold nnR
      rw [e1]; exact (delay_sc hv hs).1
  · have e1 : hD (swX σ m v) 71 m' = hD σ 71 m' := by rw [e, fup_n z]
    refine ⟨⟨g1, g2, g3, g4, g5, fun k => ?_, ?_⟩, ⟨p1, fun k => ⟨(p2 k).1, ?_⟩⟩, b⟩
    · rw [e1]; exact g6 k
    · rw [e1]; exact g7
    · unfold nnR
      rw [e1]; exact (p2 k).2
theorem TrI.set {k : Nat} {m : Int} {v : UInt64} (h : TrI σ N k) (hv : vf_n64 v) (hs : isSet (hI σ 70 m) v = true) : TrI (swX σ m v) N k := ⟨h.1.set hv hs, h.2.1, h.2.2.1, h.2.2.2.1, h.2.2.2.2⟩
theorem TrI.y {k : Nat} {q j : Int} (h : TrI σ N k) : TrI (swY σ q j) N k := h
theorem tr_69D {n : Nat} {t : UInt64} : hD (trH σ N n t) 69 = fup (hD σ 69) 45 t := by
  unfold trH
  rw [itH_69D]
  rfl
theorem cM_sweep {m n q c : Int} {x y : Int64} {k : Nat} (hs : Sc σ) (hm : inR m) (hq : inR q) (hn : inR n) (hcr : inR c) (hk : 1 ≤ k ∧ k ≤ 20) (hN : hI σ 69 0 = N) (hkd : isM σ m → inR (hI σ 70 m)) (h1 : ¬ (isM σ m ∧ isM σ q) → Q (some (vI (-101))) σ) (h2 : isM σ m → isM σ q → ¬ SwC (hI σ 70 m) x y c n → Q (some (vI (-102))) σ) (h3 : isM σ m → isM σ q → SwC (hI σ 70 m) x y c n → hI σ 69 11 = 0 → Q (some (vI (-103))) σ)
    (h4 : isM σ m → isM σ q → SwC (hI σ 70 m) x y c n → ¬ hI σ 69 11 = 0 → TrI σ N k ∧ (TrI (swS (swK σ m) N k m q x.toUInt64 y.toUInt64 n.toNat c.toNat) N k → WS (swS (swK σ m) N k m q x.toUInt64 y.toUInt64 n.toNat c.toNat) N → (∀ j : Nat, j < c.toNat → mg (hD (trH (swX (swS (swK σ m) N k m q x.toUInt64 y.toUInt64 n.toNat j) m (swv x.toUInt64 y.toUInt64 j)) N n.toNat (lenD k)) 82 q) 1024) → Q (some (vI c)) (swE (swS (swK σ m) N k m q x.toUInt64 y.toUInt64 n.toNat c.toNat) m c))) : Sp mM_sweep [vR 69, vI m, vL x, vL y, vI c, vI n, vI q] σ Q := by
  obtain ⟨s1, s2, s3, s4⟩ := hs
  have at172 : isM σ m → isM σ q → SwC (hI σ 70 m) x y c n → ¬ hI σ 69 11 = 0 → J mM_sweep 172 [(0, vR 69), (1, vI m), (6, vI c), (7, vI n), (8, vI q), (9, vD x.toUInt64), (11, vD y.toUInt64)] [] σ Q := by
    intro g1 g2 g3 g4
    obtain ⟨t0, hq2⟩ := h4 g1 g2 g3 g4
    obtain ⟨⟨c1, c2⟩, c3, c4, c5⟩ := g3
    obtain ⟨nq, hnq⟩ : ∃ j : Nat, n = j := ⟨n.toNat, by omega⟩
    subst hnq
    obtain ⟨cq, hcq⟩ : ∃ j : Nat, c = j := ⟨c.toNat, by omega⟩
    subst hcq
    rw [Int.toNat_natCast, Int.toNat_natCast] at hq2
    have t1 : TrI (swK σ m) N k := by
      obtain ⟨⟨b1, b2, b3, b4⟩, a2, a3, a4, a5⟩ := t0
      exact ⟨⟨b1, b2, b3, b4⟩, a2, a3, a4, a5⟩
    have e70 : hI (swK σ m) 70 = hI σ 70 := rfl
    have go : J mM_sweep 186 [(0, vR 69), (1, vI m), (6, vI cq), (7, vI nq), (8, vI q), (9, vD x.toUInt64), (11, vD y.toUInt64)] [] (swK σ m) Q := by
      generalize swK σ m = ω at t1 hq2 e70
      have loop : ∀ (f i : Nat), i + f = cq → TrI (swS ω N k m q x.toUInt64 y.toUInt64 nq i) N k → hI (swS ω N k m q x.toUInt64 y.toUInt64 nq i) 70 = hI σ 70 → (0 < i → WS (swS ω N k m q x.toUInt64 y.toUInt64 nq i) N) → (∀ j : Nat, j < i → mg (hD (trH (swX (swS ω N k m q x.toUInt64 y.toUInt64 nq j) m (swv x.toUInt64 y.toUInt64 j)) N nq (lenD k)) 82 q) 1024) → J mM_sweep 189 [(0, vR 69), (1, vI m), (6, vI cq), (7, vI nq), (8, vI q), (9, vD x.toUInt64), (11, vD y.toUInt64), (14, vI i)] [] (swS ω N k m q x.toUInt64 y.toUInt64 nq i) Q := by
        intro f
        induction f with
        | zero =>
          intro i e t e7 w b
          have e : i = cq := by omega
          subst e
          have hq3 := hq2 t (w (by omega)) b
          refine j_iload (p2 := 191) dM_sweep_189 rfl rfl ?_
          refine j_iload (p2 := 193) dM_sweep_191 rfl rfl ?_
          refine j_icmp_ge (p2 := 196) (tg := 240) dM_sweep_193 rfl (by decide) (by constructor <;> omega) (by constructor <;> omega) (fun h193 => ?_) (fun h193 => ?_)
          · refine j_aload_n (p2 := 241) dM_sweep_240 rfl rfl ?_
            refine j_getR (p2 := 244) dM_sweep_241 rfl fa_M_13 ly_69 rfl ?_
            refine j_iload_n (p2 := 245) dM_sweep_244 rfl rfl ?_
            refine j_aload_n (p2 := 246) dM_sweep_245 rfl rfl ?_
            refine j_getDk (p2 := 249) dM_sweep_246 rfl fa_M_368 ly_69 rfl (ki := 59) rfl ?_
            refine j_dastk (p2 := 250) dM_sweep_249 rfl ly_71 (by decide) (by omega) (by omega) ?_
            refine j_aload_n (p2 := 251) dM_sweep_250 rfl rfl ?_
            refine j_callV (m' := mM_back) (As := []) (p2 := 254) dM_sweep_251 rfl ml_M_375 ok_mM_back im_mM_back se_mM_back rfl rfl (Nat.le_of_ble_eq_true rfl) ly_69 rfl (Nat.le_of_ble_eq_true rfl) ⟨(Nat.le_of_ble_eq_true rfl), (Nat.le_of_ble_eq_true rfl)⟩ ?_
            refine cM_back ?_
            refine j_aload_n (p2 := 255) dM_sweep_254 rfl rfl ?_
            refine j_iload (p2 := 257) dM_sweep_255 rfl rfl ?_
            refine j_putIk (p2 := 260) dM_sweep_257 rfl fw_M_378 ly_69 rfl (ki := 41) rfl ?_
            refine j_iload (p2 := 262) dM_sweep_260 rfl rfl ?_
            refine j_ireturn dM_sweep_262 rfl (by exact hq3)
          · refine J.loc (lv' := [(0, _), (1, _), (6, _), (7, _), (8, _), (9, _), (11, _), (14, _)]) ⟨rfl, rfl, rfl, rfl, rfl, rfl, rfl, rfl, trivial⟩ ?_
            exfalso
            omega
        | succ f ih =>
          intro i e t e7 w b
          have ih2 := ih (i + 1) (by omega)
          clear ih hq2
          have n1 : vf_n64 (FP.dmul (FP.i2d (iw i)) y.toUInt64) := by have h := sw_mul (x := y) c4 (j := i) (by omega); rw [finL_dec c4] at h; exact h
          have n2 : vf_n64 (swv x.toUInt64 y.toUInt64 i) := by have h := sw_add c3 c4 (j := i) (by omega); rw [finL_dec c3, finL_dec c4] at h; exact h
          have t2 := t.set (m := m) n2 (by rw [e7]; exact c5 i (by omega))
          have e14 : hI (swX (swS ω N k m q x.toUInt64 y.toUInt64 nq i) m (swv x.toUInt64 y.toUInt64 i)) 69 14 = k := t2.2.2.2.2
          have e72 : hI (swX (swS ω N k m q x.toUInt64 y.toUInt64 nq i) m (swv x.toUInt64 y.toUInt64 i)) 70 = hI σ 70 := e7
          have eS : swS ω N k m q x.toUInt64 y.toUInt64 nq (i + 1) = swY (trH (swX (swS ω N k m q x.toUInt64 y.toUInt64 nq i) m (swv x.toUInt64 y.toUInt64 i)) N nq (lenD k)) q i := rfl
          have eX : wD (swS ω N k m q x.toUInt64 y.toUInt64 nq i) 71 (fup (hD (swS ω N k m q x.toUInt64 y.toUInt64 nq i) 71) m (FP.dadd x.toUInt64 (FP.dmul (FP.i2d (iw i)) y.toUInt64))) = swX (swS ω N k m q x.toUInt64 y.toUInt64 nq i) m (swv x.toUInt64 y.toUInt64 i) := rfl
          refine j_iload (p2 := 191) dM_sweep_189 rfl rfl ?_
          refine j_iload (p2 := 193) dM_sweep_191 rfl rfl ?_
          refine j_icmp_ge (p2 := 196) (tg := 240) dM_sweep_193 rfl (by decide) (by constructor <;> omega) (by constructor <;> omega) (fun h193 => ?_) (fun h193 => ?_)
          · refine J.loc (lv' := [(0, _), (1, _), (6, _)]) ⟨rfl, rfl, rfl, trivial⟩ ?_
            exfalso
            omega
          · refine j_aload_n (p2 := 197) dM_sweep_196 rfl rfl ?_
            refine j_getR (p2 := 200) dM_sweep_197 rfl fa_M_13 ly_69 rfl ?_
            refine j_iload_n (p2 := 201) dM_sweep_200 rfl rfl ?_
            refine j_dload (p2 := 203) dM_sweep_201 rfl rfl ?_
            refine j_iload (p2 := 205) dM_sweep_203 rfl rfl ?_
            refine j_i2d (p2 := 206) dM_sweep_205 rfl ?_
            refine j_dload (p2 := 208) dM_sweep_206 rfl rfl ?_
            refine j_dmul (p2 := 209) dM_sweep_208 rfl n1 ?_
            refine j_dadd (p2 := 210) dM_sweep_209 rfl n2 ?_
            refine j_dastk (p2 := 211) dM_sweep_210 rfl ly_71 (by decide) (by omega) (by omega) ?_
            refine j_aload_n (p2 := 212) dM_sweep_211 rfl rfl ?_
            refine j_getR (p2 := 215) dM_sweep_212 rfl fa_M_116 ly_69 rfl ?_
            refine j_iload (p2 := 217) dM_sweep_215 rfl rfl ?_
            refine j_aload_n (p2 := 218) dM_sweep_217 rfl rfl ?_
            refine j_iload (p2 := 220) dM_sweep_218 rfl rfl ?_
            refine j_iload (p2 := 222) dM_sweep_220 rfl rfl ?_
            refine j_aload_n (p2 := 223) dM_sweep_222 rfl rfl ?_
            refine j_aload_n (p2 := 224) dM_sweep_223 rfl rfl ?_
            refine j_getIk (p2 := 227) dM_sweep_224 rfl fa_M_42 ly_69 rfl (ki := 14) rfl ?_
            refine j_callV (m' := mM_lengthOf) (As := [_]) (p2 := 230) dM_sweep_227 rfl ml_M_344 ok_mM_lengthOf im_mM_lengthOf se_mM_lengthOf rfl rfl (Nat.le_of_ble_eq_true rfl) ly_69 rfl (Nat.le_of_ble_eq_true rfl) ⟨(Nat.le_of_ble_eq_true rfl), (Nat.le_of_ble_eq_true rfl)⟩ ?_
            rw [eX, e14]
            refine cM_lengthOf (by omega) ?_
            refine j_callV (m' := mM_tried) (As := [_, _, _]) (p2 := 233) dM_sweep_230 rfl ml_M_371 ok_mM_tried im_mM_tried se_mM_tried rfl rfl (Nat.le_of_ble_eq_true rfl) ly_69 rfl (Nat.le_of_ble_eq_true rfl) ⟨(Nat.le_of_ble_eq_true rfl), (Nat.le_of_ble_eq_true rfl)⟩ ?_
            refine cM_tried (n := nq) t2.1 t2.2.1 t2.2.2.1 (lenD_1023 k (by omega) hk.1) t2.2.2.2.1 ⟨g2.1, by have := g2.2; omega⟩ (by omega) (fun w1 z1 => ?_)
            have t3 := t2.tr w1 z1
            have bW := (w1.2.1 q g2.1 (by have := g2.2; omega)).1
            have e73 : hI (trH (swX (swS ω N k m q x.toUInt64 y.toUInt64 nq i) m (swv x.toUInt64 y.toUInt64 i)) N nq (lenD k)) 70 = hI σ 70 := by rw [(fo_tr).I (by decide)]; exact e72
            refine j_dastk (p2 := 234) dM_sweep_233 rfl ly_103 (by decide) (by omega) (by omega) ?_
            refine j_iinc (p2 := 237) (lv' := [(0, _), (1, _), (6, _), (7, _), (8, _), (9, _), (11, _), (14, _)]) dM_sweep_234 rfl (Nat.le_of_ble_eq_true rfl) rfl ⟨rfl, rfl, rfl, rfl, rfl, rfl, rfl, rfl, trivial⟩ ?_
            refine j_goto (p2 := 189) dM_sweep_237 (by decide) ?_
            refine J.loc (lv' := [(0, _), (1, _), (6, _), (7, _), (8, _), (9, _), (11, _), (14, _)]) ⟨rfl, rfl, rfl, rfl, rfl, rfl, rfl, rfl, trivial⟩ ?_
            refine ih2 t3.y e73 (fun _ => w1) (fun j hj => ?_)
            by_cases g : j = i
            · rw [g]; exact bW
            · exact b j (by omega)
      refine j_iconst (p2 := 187) dM_sweep_186 rfl ?_
      refine j_istore (p2 := 189) (lv' := [(0, _), (1, _), (6, _), (7, _), (8, _), (9, _), (11, _), (14, _)]) dM_sweep_187 rfl (Nat.le_of_ble_eq_true rfl) ⟨rfl, rfl, rfl, rfl, rfl, rfl, rfl, rfl, trivial⟩ ?_
      refine J.loc (lv' := [(0, _), (1, _), (6, _), (7, _), (8, _), (9, _), (11, _), (14, _)]) ⟨rfl, rfl, rfl, rfl, rfl, rfl, rfl, rfl, trivial⟩ ?_
      exact loop cq 0 (by omega) t1 e70 (fun h => absurd h (by omega)) (fun x hx => absurd hx (by omega))
    refine j_aload_n (p2 := 173) dM_sweep_172 rfl rfl ?_
    refine j_callV (m' := mM_keep) (As := []) (p2 := 176) dM_sweep_173 rfl ml_M_365 ok_mM_keep im_mM_keep se_mM_keep rfl rfl (Nat.le_of_ble_eq_true rfl) ly_69 rfl (Nat.le_of_ble_eq_true rfl) ⟨(Nat.le_of_ble_eq_true rfl), (Nat.le_of_ble_eq_true rfl)⟩ ?_
    refine cM_keep ?_
    refine j_aload_n (p2 := 177) dM_sweep_176 rfl rfl ?_
    refine j_aload_n (p2 := 178) dM_sweep_177 rfl rfl ?_
    refine j_getR (p2 := 181) dM_sweep_178 rfl fa_M_13 ly_69 rfl ?_
    refine j_iload_n (p2 := 182) dM_sweep_181 rfl rfl ?_
    refine j_dald (p2 := 183) dM_sweep_182 rfl ly_71 (by decide) (by omega) (by omega) ?_
    refine j_putDk (p2 := 186) dM_sweep_183 rfl fw_M_368 ly_69 rfl (ki := 59) rfl ?_
    refine J.loc (lv' := [(0, _), (1, _), (6, _), (7, _), (8, _), (9, _), (11, _)]) ⟨rfl, rfl, rfl, rfl, rfl, rfl, rfl, trivial⟩ ?_
    exact go
  have at162 : isM σ m → isM σ q → SwC (hI σ 70 m) x y c n → J mM_sweep 162 [(0, vR 69), (1, vI m), (6, vI c), (7, vI n), (8, vI q), (9, vD x.toUInt64), (11, vD y.toUInt64)] [] σ Q := fun g1 g2 g3 => by
    refine j_aload_n (p2 := 163) dM_sweep_162 rfl rfl ?_
    refine j_getIk (p2 := 166) dM_sweep_163 rfl fa_M_195 ly_69 rfl (ki := 11) rfl ?_
    refine j_if_ne (p2 := 169) (tg := 172) dM_sweep_166 rfl (by decide) (by constructor <;> omega) (fun h166 => ?_) (fun h166 => ?_)
    · refine J.loc (lv' := [(0, _), (1, _), (6, _), (7, _), (8, _), (9, _), (11, _)]) ⟨rfl, rfl, rfl, rfl, rfl, rfl, rfl, trivial⟩ ?_
      exact at172 g1 g2 g3 h166
    · refine j_bipush (v := (-103)) (p2 := 171) dM_sweep_169 rfl rfl ?_
      refine j_ireturn dM_sweep_171 rfl (by exact h3 g1 g2 g3 h166)
  have at60 : isM σ m → isM σ q → ((1 ≤ c ∧ c ≤ 6) ∧ 1 ≤ n ∧ n ≤ 40) → isNum x → isNum y → J mM_sweep 60 [(0, vR 69), (1, vI m), (2, vL x), (4, vL y), (6, vI c), (7, vI n), (8, vI q)] [] σ Q := by
    intro g1 g2 g3 g4 g5
    have kb := hkd g1
    have x4 := isNum_sn g4
    have x5 := isNum_sn g5
    have loopF : ¬ SwC (hI σ 70 m) x y c n → ∀ (f i : Nat), (i : Int) + f = c → J mM_sweep 108 [(0, vR 69), (1, vI m), (6, vI c), (7, vI n), (8, vI q), (9, vD x.toUInt64), (11, vD y.toUInt64), (13, vI 0), (14, vI i)] [] σ Q := by
      intro hno f
      induction f with
      | zero =>
        intro i e
        refine j_iload (p2 := 110) dM_sweep_108 rfl rfl ?_
        refine j_iload (p2 := 112) dM_sweep_110 rfl rfl ?_
        refine j_icmp_ge (p2 := 115) (tg := 154) dM_sweep_112 rfl (by decide) (by constructor <;> omega) (by constructor <;> omega) (fun h112 => ?_) (fun h112 => ?_)
        · refine j_iload (p2 := 156) dM_sweep_154 rfl rfl ?_
          refine j_if_ne (p2 := 159) (tg := 162) dM_sweep_156 rfl (by decide) (by constructor <;> omega) (fun h156 => ?_) (fun h156 => ?_)
          · refine J.loc (lv' := [(0, _), (1, _), (6, _), (7, _), (8, _), (9, _), (11, _)]) ⟨rfl, rfl, rfl, rfl, rfl, rfl, rfl, trivial⟩ ?_
            exact absurd rfl h156
          · refine j_bipush (v := (-102)) (p2 := 161) dM_sweep_159 rfl rfl ?_
            refine j_ireturn dM_sweep_161 rfl (by exact h2 g1 g2 hno)
        · refine J.loc (lv' := [(0, _), (1, _), (6, _), (7, _), (8, _), (9, _), (11, _), (13, _), (14, _)]) ⟨rfl, rfl, rfl, rfl, rfl, rfl, rfl, rfl, rfl, trivial⟩ ?_
          exfalso
          omega
      | succ f ih =>
        intro i e
        refine j_iload (p2 := 110) dM_sweep_108 rfl rfl ?_
        refine j_iload (p2 := 112) dM_sweep_110 rfl rfl ?_
        refine j_icmp_ge (p2 := 115) (tg := 154) dM_sweep_112 rfl (by decide) (by constructor <;> omega) (by constructor <;> omega) (fun h112 => ?_) (fun h112 => ?_)
        · refine J.loc (lv' := [(0, _), (1, _), (6, _), (7, _), (8, _), (9, _), (11, _), (13, _)]) ⟨rfl, rfl, rfl, rfl, rfl, rfl, rfl, rfl, trivial⟩ ?_
          exfalso
          omega
        · refine j_iload (p2 := 117) dM_sweep_115 rfl rfl ?_
          refine j_if_eq (p2 := 120) (tg := 145) dM_sweep_117 rfl (by decide) (by constructor <;> omega) (fun h117 => ?_) (fun h117 => ?_)
          · refine j_iconst (p2 := 146) dM_sweep_145 rfl ?_
            refine j_istore (p2 := 148) (lv' := [(0, _), (1, _), (6, _), (7, _), (8, _), (9, _), (11, _), (13, _), (14, _)]) dM_sweep_146 rfl (Nat.le_of_ble_eq_true rfl) ⟨rfl, rfl, rfl, rfl, rfl, rfl, rfl, rfl, rfl, trivial⟩ ?_
            refine j_iinc (p2 := 151) (lv' := [(0, _), (1, _), (6, _), (7, _), (8, _), (9, _), (11, _), (13, _), (14, _)]) dM_sweep_148 rfl (Nat.le_of_ble_eq_true rfl) rfl ⟨rfl, rfl, rfl, rfl, rfl, rfl, rfl, rfl, rfl, trivial⟩ ?_
            refine j_goto (p2 := 108) dM_sweep_151 (by decide) ?_
            refine J.loc (lv' := [(0, _), (1, _), (6, _), (7, _), (8, _), (9, _), (11, _), (13, _), (14, _)]) ⟨rfl, rfl, rfl, rfl, rfl, rfl, rfl, rfl, rfl, trivial⟩ ?_
            exact ih (i + 1) (by omega)
          · refine J.loc (lv' := [(0, _), (1, _), (6, _), (7, _), (8, _), (9, _), (11, _), (14, _)]) ⟨rfl, rfl, rfl, rfl, rfl, rfl, rfl, rfl, trivial⟩ ?_
            exact absurd rfl h117
    have loopT : finL x → finL y → ∀ (f i : Nat), (i : Int) + f = c → (∀ j : Nat, j < i → isSet (hI σ 70 m) (swv x.toUInt64 y.toUInt64 j) = true) → J mM_sweep 108 [(0, vR 69), (1, vI m), (6, vI c), (7, vI n), (8, vI q), (9, vD x.toUInt64), (11, vD y.toUInt64), (13, vI 1), (14, vI i)] [] σ Q := by
      intro fx fy f
      induction f with
      | zero =>
        intro i e ha
        refine j_iload (p2 := 110) dM_sweep_108 rfl rfl ?_
        refine j_iload (p2 := 112) dM_sweep_110 rfl rfl ?_
        refine j_icmp_ge (p2 := 115) (tg := 154) dM_sweep_112 rfl (by decide) (by constructor <;> omega) (by constructor <;> omega) (fun h112 => ?_) (fun h112 => ?_)
        · refine j_iload (p2 := 156) dM_sweep_154 rfl rfl ?_
          refine j_if_ne (p2 := 159) (tg := 162) dM_sweep_156 rfl (by decide) (by constructor <;> omega) (fun h156 => ?_) (fun h156 => ?_)
          · refine J.loc (lv' := [(0, _), (1, _), (6, _), (7, _), (8, _), (9, _), (11, _)]) ⟨rfl, rfl, rfl, rfl, rfl, rfl, rfl, trivial⟩ ?_
            exact at162 g1 g2 ⟨g3, fx, fy, fun j hj => ha j (by omega)⟩
          · refine j_bipush (v := (-102)) (p2 := 161) dM_sweep_159 rfl rfl ?_
            refine j_ireturn dM_sweep_161 rfl (by exact absurd h156 (by decide))
        · refine J.loc (lv' := [(0, _), (1, _), (6, _), (7, _), (8, _), (9, _), (11, _), (13, _), (14, _)]) ⟨rfl, rfl, rfl, rfl, rfl, rfl, rfl, rfl, rfl, trivial⟩ ?_
          exfalso
          omega
      | succ f ih =>
        intro i e ha
        have n1 : vf_n64 (FP.dmul (FP.i2d (iw i)) y.toUInt64) := by have h := sw_mul (x := y) fy (j := i) (by omega); rw [finL_dec fy] at h; exact h
        have n2 : vf_n64 (FP.dadd x.toUInt64 (FP.dmul (FP.i2d (iw i)) y.toUInt64)) := by have h := sw_add fx fy (j := i) (by omega); rw [finL_dec fx, finL_dec fy] at h; exact h
        refine j_iload (p2 := 110) dM_sweep_108 rfl rfl ?_
        refine j_iload (p2 := 112) dM_sweep_110 rfl rfl ?_
        refine j_icmp_ge (p2 := 115) (tg := 154) dM_sweep_112 rfl (by decide) (by constructor <;> omega) (by constructor <;> omega) (fun h112 => ?_) (fun h112 => ?_)
        · refine J.loc (lv' := [(0, _), (1, _), (6, _), (7, _), (8, _), (9, _), (11, _), (13, _)]) ⟨rfl, rfl, rfl, rfl, rfl, rfl, rfl, rfl, trivial⟩ ?_
          exfalso
          omega
        · refine j_iload (p2 := 117) dM_sweep_115 rfl rfl ?_
          refine j_if_eq (p2 := 120) (tg := 145) dM_sweep_117 rfl (by decide) (by constructor <;> omega) (fun h117 => ?_) (fun h117 => ?_)
          · refine J.loc (lv' := [(0, _), (1, _), (6, _), (7, _), (8, _), (9, _), (11, _), (14, _)]) ⟨rfl, rfl, rfl, rfl, rfl, rfl, rfl, rfl, trivial⟩ ?_
            refine j_iconst (p2 := 146) dM_sweep_145 rfl ?_
            refine j_istore (p2 := 148) (lv' := [(0, _), (1, _), (6, _), (7, _), (8, _), (9, _), (11, _), (13, _), (14, _)]) dM_sweep_146 rfl (Nat.le_of_ble_eq_true rfl) ⟨rfl, rfl, rfl, rfl, rfl, rfl, rfl, rfl, rfl, trivial⟩ ?_
            refine j_iinc (p2 := 151) (lv' := [(0, _), (1, _), (6, _), (7, _), (8, _), (9, _), (11, _), (13, _), (14, _)]) dM_sweep_148 rfl (Nat.le_of_ble_eq_true rfl) rfl ⟨rfl, rfl, rfl, rfl, rfl, rfl, rfl, rfl, rfl, trivial⟩ ?_
            refine j_goto (p2 := 108) dM_sweep_151 (by decide) ?_
            refine J.loc (lv' := [(0, _), (1, _), (6, _), (7, _), (8, _), (9, _), (11, _), (13, _), (14, _)]) ⟨rfl, rfl, rfl, rfl, rfl, rfl, rfl, rfl, rfl, trivial⟩ ?_
            first
              | exact absurd h117 (by decide)
              | (refine loopF (fun z => ?_) f (i + 1) (by omega)
                 have w := z.2.2.2 i (by omega)
                 exact absurd (w.symm.trans h138) (by decide))
          · refine j_aload_n (p2 := 121) dM_sweep_120 rfl rfl ?_
            refine j_getR (p2 := 124) dM_sweep_121 rfl fa_M_7 ly_69 rfl ?_
            refine j_iload_n (p2 := 125) dM_sweep_124 rfl rfl ?_
            refine j_iald (p2 := 126) dM_sweep_125 rfl ly_70 (by decide) (by omega) (by omega) ?_
            refine j_dload (p2 := 128) dM_sweep_126 rfl rfl ?_
            refine j_iload (p2 := 130) dM_sweep_128 rfl rfl ?_
            refine j_i2d (p2 := 131) dM_sweep_130 rfl ?_
            refine j_dload (p2 := 133) dM_sweep_131 rfl rfl ?_
            refine j_dmul (p2 := 134) dM_sweep_133 rfl n1 ?_
            refine j_dadd (p2 := 135) dM_sweep_134 rfl n2 ?_
            refine j_callS (m' := mM_isSetting) (As := [_, _]) (p2 := 138) dM_sweep_135 rfl ml_M_191 ok_mM_isSetting sm_mM_isSetting rfl rfl (Nat.le_of_ble_eq_true rfl) (Nat.le_of_ble_eq_true rfl) ⟨(Nat.le_of_ble_eq_true rfl), (Nat.le_of_ble_eq_true rfl)⟩ ?_
            refine cM_isSetting kb ?_
            refine j_ifb_eq (p2 := 141) (tg := 145) dM_sweep_138 rfl (by decide) (fun h138 => ?_) (fun h138 => ?_)
            · refine J.loc (lv' := [(0, _), (1, _), (6, _), (7, _), (8, _), (9, _), (11, _), (14, _)]) ⟨rfl, rfl, rfl, rfl, rfl, rfl, rfl, rfl, trivial⟩ ?_
              refine j_iconst (p2 := 146) dM_sweep_145 rfl ?_
              refine j_istore (p2 := 148) (lv' := [(0, _), (1, _), (6, _), (7, _), (8, _), (9, _), (11, _), (13, _), (14, _)]) dM_sweep_146 rfl (Nat.le_of_ble_eq_true rfl) ⟨rfl, rfl, rfl, rfl, rfl, rfl, rfl, rfl, rfl, trivial⟩ ?_
              refine j_iinc (p2 := 151) (lv' := [(0, _), (1, _), (6, _), (7, _), (8, _), (9, _), (11, _), (13, _), (14, _)]) dM_sweep_148 rfl (Nat.le_of_ble_eq_true rfl) rfl ⟨rfl, rfl, rfl, rfl, rfl, rfl, rfl, rfl, rfl, trivial⟩ ?_
              refine j_goto (p2 := 108) dM_sweep_151 (by decide) ?_
              refine J.loc (lv' := [(0, _), (1, _), (6, _), (7, _), (8, _), (9, _), (11, _), (13, _), (14, _)]) ⟨rfl, rfl, rfl, rfl, rfl, rfl, rfl, rfl, rfl, trivial⟩ ?_
              first
                | exact absurd h117 (by decide)
                | (refine loopF (fun z => ?_) f (i + 1) (by omega)
                   have w := z.2.2.2 i (by omega)
                   exact absurd (w.symm.trans h138) (by decide))
            · refine J.loc (lv' := [(0, _), (1, _), (6, _), (7, _), (8, _), (9, _), (11, _), (14, _)]) ⟨rfl, rfl, rfl, rfl, rfl, rfl, rfl, rfl, trivial⟩ ?_
              refine j_iconst (p2 := 142) dM_sweep_141 rfl ?_
              refine j_goto (p2 := 146) dM_sweep_142 (by decide) ?_
              refine j_istore (p2 := 148) (lv' := [(0, _), (1, _), (6, _), (7, _), (8, _), (9, _), (11, _), (13, _), (14, _)]) dM_sweep_146 rfl (Nat.le_of_ble_eq_true rfl) ⟨rfl, rfl, rfl, rfl, rfl, rfl, rfl, rfl, rfl, trivial⟩ ?_
              refine j_iinc (p2 := 151) (lv' := [(0, _), (1, _), (6, _), (7, _), (8, _), (9, _), (11, _), (13, _), (14, _)]) dM_sweep_148 rfl (Nat.le_of_ble_eq_true rfl) rfl ⟨rfl, rfl, rfl, rfl, rfl, rfl, rfl, rfl, rfl, trivial⟩ ?_
              refine j_goto (p2 := 108) dM_sweep_151 (by decide) ?_
              refine J.loc (lv' := [(0, _), (1, _), (6, _), (7, _), (8, _), (9, _), (11, _), (13, _), (14, _)]) ⟨rfl, rfl, rfl, rfl, rfl, rfl, rfl, rfl, rfl, trivial⟩ ?_
              refine ih (i + 1) (by omega) (fun j hj => ?_)
              by_cases g : j = i
              · rw [g]; exact h138
              · exact ha j (by omega)
    refine j_lload_n (p2 := 61) dM_sweep_60 rfl rfl ?_
    refine j_ofBits (p2 := 64) dM_sweep_61 rfl ml_M_185 (Nat.le_of_ble_eq_true rfl) (Nat.le_of_ble_eq_true rfl) (by first | exact x4 | exact x5) ?_
    refine j_dstore (p2 := 66) (lv' := [(0, _), (1, _), (2, _), (4, _), (6, _), (7, _), (8, _), (9, _)]) dM_sweep_64 rfl (Nat.le_of_ble_eq_true rfl) ⟨rfl, rfl, rfl, rfl, rfl, rfl, rfl, rfl, trivial⟩ ?_
    refine j_lload (p2 := 68) dM_sweep_66 rfl rfl ?_
    refine j_ofBits (p2 := 71) dM_sweep_68 rfl ml_M_185 (Nat.le_of_ble_eq_true rfl) (Nat.le_of_ble_eq_true rfl) (by first | exact x4 | exact x5) ?_
    refine j_dstore (p2 := 73) (lv' := [(0, _), (1, _), (2, _), (4, _), (6, _), (7, _), (8, _), (9, _), (11, _)]) dM_sweep_71 rfl (Nat.le_of_ble_eq_true rfl) ⟨rfl, rfl, rfl, rfl, rfl, rfl, rfl, rfl, rfl, trivial⟩ ?_
    refine j_lload_n (p2 := 74) dM_sweep_73 rfl rfl ?_
    refine j_ldc2 (p2 := 77) dM_sweep_74 rfl cw_M_165 ?_
    refine j_land (p2 := 78) dM_sweep_77 rfl ?_
    refine j_ldc2 (p2 := 81) dM_sweep_78 rfl cw_M_167 ?_
    refine j_lcmp_ge (p1 := 82) (p2 := 85) (tg := 102) dM_sweep_81 rfl dM_sweep_82 rfl (by decide) (fun h81 => ?_) (fun h81 => ?_)
    · refine J.loc (lv' := [(0, _), (1, _), (6, _), (7, _), (8, _), (9, _), (11, _)]) ⟨rfl, rfl, rfl, rfl, rfl, rfl, rfl, trivial⟩ ?_
      refine j_iconst (p2 := 103) dM_sweep_102 rfl ?_
      refine j_istore (p2 := 105) (lv' := [(0, _), (1, _), (6, _), (7, _), (8, _), (9, _), (11, _), (13, _)]) dM_sweep_103 rfl (Nat.le_of_ble_eq_true rfl) ⟨rfl, rfl, rfl, rfl, rfl, rfl, rfl, rfl, trivial⟩ ?_
      refine j_iconst (p2 := 106) dM_sweep_105 rfl ?_
      refine j_istore (p2 := 108) (lv' := [(0, _), (1, _), (6, _), (7, _), (8, _), (9, _), (11, _), (13, _), (14, _)]) dM_sweep_106 rfl (Nat.le_of_ble_eq_true rfl) ⟨rfl, rfl, rfl, rfl, rfl, rfl, rfl, rfl, rfl, trivial⟩ ?_
      refine J.loc (lv' := [(0, _), (1, _), (6, _), (7, _), (8, _), (9, _), (11, _), (13, _), (14, _)]) ⟨rfl, rfl, rfl, rfl, rfl, rfl, rfl, rfl, rfl, trivial⟩ ?_
      first
        | exact loopF (fun z => h81 (finL_iff.mpr z.2.1)) c.toNat 0 (by omega)
        | exact loopF (fun z => h94 (finL_iff.mpr z.2.2.1)) c.toNat 0 (by omega)
    · refine j_lload (p2 := 87) dM_sweep_85 rfl rfl ?_
      refine j_ldc2 (p2 := 90) dM_sweep_87 rfl cw_M_165 ?_
      refine j_land (p2 := 91) dM_sweep_90 rfl ?_
      refine j_ldc2 (p2 := 94) dM_sweep_91 rfl cw_M_167 ?_
      refine j_lcmp_ge (p1 := 95) (p2 := 98) (tg := 102) dM_sweep_94 rfl dM_sweep_95 rfl (by decide) (fun h94 => ?_) (fun h94 => ?_)
      · refine J.loc (lv' := [(0, _), (1, _), (6, _), (7, _), (8, _), (9, _), (11, _)]) ⟨rfl, rfl, rfl, rfl, rfl, rfl, rfl, trivial⟩ ?_
        refine j_iconst (p2 := 103) dM_sweep_102 rfl ?_
        refine j_istore (p2 := 105) (lv' := [(0, _), (1, _), (6, _), (7, _), (8, _), (9, _), (11, _), (13, _)]) dM_sweep_103 rfl (Nat.le_of_ble_eq_true rfl) ⟨rfl, rfl, rfl, rfl, rfl, rfl, rfl, rfl, trivial⟩ ?_
        refine j_iconst (p2 := 106) dM_sweep_105 rfl ?_
        refine j_istore (p2 := 108) (lv' := [(0, _), (1, _), (6, _), (7, _), (8, _), (9, _), (11, _), (13, _), (14, _)]) dM_sweep_106 rfl (Nat.le_of_ble_eq_true rfl) ⟨rfl, rfl, rfl, rfl, rfl, rfl, rfl, rfl, rfl, trivial⟩ ?_
        refine J.loc (lv' := [(0, _), (1, _), (6, _), (7, _), (8, _), (9, _), (11, _), (13, _), (14, _)]) ⟨rfl, rfl, rfl, rfl, rfl, rfl, rfl, rfl, rfl, trivial⟩ ?_
        first
          | exact loopF (fun z => h81 (finL_iff.mpr z.2.1)) c.toNat 0 (by omega)
          | exact loopF (fun z => h94 (finL_iff.mpr z.2.2.1)) c.toNat 0 (by omega)
      · refine J.loc (lv' := [(0, _), (1, _), (6, _), (7, _), (8, _), (9, _), (11, _)]) ⟨rfl, rfl, rfl, rfl, rfl, rfl, rfl, trivial⟩ ?_
        refine j_iconst (p2 := 99) dM_sweep_98 rfl ?_
        refine j_goto (p2 := 103) dM_sweep_99 (by decide) ?_
        refine j_istore (p2 := 105) (lv' := [(0, _), (1, _), (6, _), (7, _), (8, _), (9, _), (11, _), (13, _)]) dM_sweep_103 rfl (Nat.le_of_ble_eq_true rfl) ⟨rfl, rfl, rfl, rfl, rfl, rfl, rfl, rfl, trivial⟩ ?_
        refine j_iconst (p2 := 106) dM_sweep_105 rfl ?_
        refine j_istore (p2 := 108) (lv' := [(0, _), (1, _), (6, _), (7, _), (8, _), (9, _), (11, _), (13, _), (14, _)]) dM_sweep_106 rfl (Nat.le_of_ble_eq_true rfl) ⟨rfl, rfl, rfl, rfl, rfl, rfl, rfl, rfl, rfl, trivial⟩ ?_
        refine J.loc (lv' := [(0, _), (1, _), (6, _), (7, _), (8, _), (9, _), (11, _), (13, _), (14, _)]) ⟨rfl, rfl, rfl, rfl, rfl, rfl, rfl, rfl, rfl, trivial⟩ ?_
        exact loopT (finL_iff.mp h81) (finL_iff.mp h94) c.toNat 0 (by omega) (fun j hj => absurd hj (by omega))
  refine j_aload_n (p2 := 1) dM_sweep_0 rfl rfl ?_
  refine j_iload_n (p2 := 2) dM_sweep_1 rfl rfl ?_
  refine j_callV (m' := mM_isModule) (As := [_]) (p2 := 5) dM_sweep_2 rfl ml_M_198 ok_mM_isModule im_mM_isModule se_mM_isModule rfl rfl (Nat.le_of_ble_eq_true rfl) ly_69 rfl (Nat.le_of_ble_eq_true rfl) ⟨(Nat.le_of_ble_eq_true rfl), (Nat.le_of_ble_eq_true rfl)⟩ ?_
  refine cM_isModule hm s1 ?_
  refine j_ifb_eq (p2 := 8) (tg := 17) dM_sweep_5 rfl (by decide) (fun h5 => ?_) (fun h5 => ?_)
  · refine j_bipush (v := (-101)) (p2 := 19) dM_sweep_17 rfl rfl ?_
    refine j_ireturn dM_sweep_19 rfl (by first | (have g := of_decide_eq_false h5; exact h1 (fun z => g z.1)) | (have g := of_decide_eq_false h14; exact h1 (fun z => g z.2)) | (have g := of_decide_eq_false h28; exact h2 (dec_t h5) (dec_t h14) (fun z => g (by have := z.1; omega))) | (have g := of_decide_eq_false h39; exact h2 (dec_t h5) (dec_t h14) (fun z => g (by have := z.1; omega))) | (have g := of_decide_eq_false h46; exact h2 (dec_t h5) (dec_t h14) (fun z => g (finL_num z.2.1))) | (have g := of_decide_eq_false h54; exact h2 (dec_t h5) (dec_t h14) (fun z => g (finL_num z.2.2.1))))
  · refine j_aload_n (p2 := 9) dM_sweep_8 rfl rfl ?_
    refine j_iload (p2 := 11) dM_sweep_9 rfl rfl ?_
    refine j_callV (m' := mM_isModule) (As := [_]) (p2 := 14) dM_sweep_11 rfl ml_M_198 ok_mM_isModule im_mM_isModule se_mM_isModule rfl rfl (Nat.le_of_ble_eq_true rfl) ly_69 rfl (Nat.le_of_ble_eq_true rfl) ⟨(Nat.le_of_ble_eq_true rfl), (Nat.le_of_ble_eq_true rfl)⟩ ?_
    refine cM_isModule hq s1 ?_
    refine j_ifb_ne (p2 := 17) (tg := 20) dM_sweep_14 rfl (by decide) (fun h14 => ?_) (fun h14 => ?_)
    · refine j_iload (p2 := 22) dM_sweep_20 rfl rfl ?_
      refine j_iconst (p2 := 23) dM_sweep_22 rfl ?_
      refine j_bipush (v := 6) (p2 := 25) dM_sweep_23 rfl rfl ?_
      refine j_callS (m' := mM_in) (As := [_, _, _]) (p2 := 28) dM_sweep_25 rfl ml_M_161 ok_mM_in sm_mM_in rfl rfl (Nat.le_of_ble_eq_true rfl) (Nat.le_of_ble_eq_true rfl) ⟨(Nat.le_of_ble_eq_true rfl), (Nat.le_of_ble_eq_true rfl)⟩ ?_
      refine cM_in hcr (by constructor <;> omega) (by constructor <;> omega) ?_
      refine j_ifb_eq (p2 := 31) (tg := 57) dM_sweep_28 rfl (by decide) (fun h28 => ?_) (fun h28 => ?_)
      · refine j_bipush (v := (-102)) (p2 := 59) dM_sweep_57 rfl rfl ?_
        refine j_ireturn dM_sweep_59 rfl (by first | (have g := of_decide_eq_false h5; exact h1 (fun z => g z.1)) | (have g := of_decide_eq_false h14; exact h1 (fun z => g z.2)) | (have g := of_decide_eq_false h28; exact h2 (dec_t h5) (dec_t h14) (fun z => g (by have := z.1; omega))) | (have g := of_decide_eq_false h39; exact h2 (dec_t h5) (dec_t h14) (fun z => g (by have := z.1; omega))) | (have g := of_decide_eq_false h46; exact h2 (dec_t h5) (dec_t h14) (fun z => g (finL_num z.2.1))) | (have g := of_decide_eq_false h54; exact h2 (dec_t h5) (dec_t h14) (fun z => g (finL_num z.2.2.1))))
      · refine j_iload (p2 := 33) dM_sweep_31 rfl rfl ?_
        refine j_iconst (p2 := 34) dM_sweep_33 rfl ?_
        refine j_bipush (v := 40) (p2 := 36) dM_sweep_34 rfl rfl ?_
        refine j_callS (m' := mM_in) (As := [_, _, _]) (p2 := 39) dM_sweep_36 rfl ml_M_161 ok_mM_in sm_mM_in rfl rfl (Nat.le_of_ble_eq_true rfl) (Nat.le_of_ble_eq_true rfl) ⟨(Nat.le_of_ble_eq_true rfl), (Nat.le_of_ble_eq_true rfl)⟩ ?_
        refine cM_in hn (by constructor <;> omega) (by constructor <;> omega) ?_
        refine j_ifb_eq (p2 := 42) (tg := 57) dM_sweep_39 rfl (by decide) (fun h39 => ?_) (fun h39 => ?_)
        · refine j_bipush (v := (-102)) (p2 := 59) dM_sweep_57 rfl rfl ?_
          refine j_ireturn dM_sweep_59 rfl (by first | (have g := of_decide_eq_false h5; exact h1 (fun z => g z.1)) | (have g := of_decide_eq_false h14; exact h1 (fun z => g z.2)) | (have g := of_decide_eq_false h28; exact h2 (dec_t h5) (dec_t h14) (fun z => g (by have := z.1; omega))) | (have g := of_decide_eq_false h39; exact h2 (dec_t h5) (dec_t h14) (fun z => g (by have := z.1; omega))) | (have g := of_decide_eq_false h46; exact h2 (dec_t h5) (dec_t h14) (fun z => g (finL_num z.2.1))) | (have g := of_decide_eq_false h54; exact h2 (dec_t h5) (dec_t h14) (fun z => g (finL_num z.2.2.1))))
        · refine j_lload_n (p2 := 43) dM_sweep_42 rfl rfl ?_
          refine j_callS (m' := mM_isNumber) (As := [_]) (p2 := 46) dM_sweep_43 rfl ml_M_181 ok_mM_isNumber sm_mM_isNumber rfl rfl (Nat.le_of_ble_eq_true rfl) (Nat.le_of_ble_eq_true rfl) ⟨(Nat.le_of_ble_eq_true rfl), (Nat.le_of_ble_eq_true rfl)⟩ ?_
          refine cM_isNumber ?_
          refine j_ifb_eq (p2 := 49) (tg := 57) dM_sweep_46 rfl (by decide) (fun h46 => ?_) (fun h46 => ?_)
          · refine j_bipush (v := (-102)) (p2 := 59) dM_sweep_57 rfl rfl ?_
            refine j_ireturn dM_sweep_59 rfl (by first | (have g := of_decide_eq_false h5; exact h1 (fun z => g z.1)) | (have g := of_decide_eq_false h14; exact h1 (fun z => g z.2)) | (have g := of_decide_eq_false h28; exact h2 (dec_t h5) (dec_t h14) (fun z => g (by have := z.1; omega))) | (have g := of_decide_eq_false h39; exact h2 (dec_t h5) (dec_t h14) (fun z => g (by have := z.1; omega))) | (have g := of_decide_eq_false h46; exact h2 (dec_t h5) (dec_t h14) (fun z => g (finL_num z.2.1))) | (have g := of_decide_eq_false h54; exact h2 (dec_t h5) (dec_t h14) (fun z => g (finL_num z.2.2.1))))
          · refine j_lload (p2 := 51) dM_sweep_49 rfl rfl ?_
            refine j_callS (m' := mM_isNumber) (As := [_]) (p2 := 54) dM_sweep_51 rfl ml_M_181 ok_mM_isNumber sm_mM_isNumber rfl rfl (Nat.le_of_ble_eq_true rfl) (Nat.le_of_ble_eq_true rfl) ⟨(Nat.le_of_ble_eq_true rfl), (Nat.le_of_ble_eq_true rfl)⟩ ?_
            refine cM_isNumber ?_
            refine j_ifb_ne (p2 := 57) (tg := 60) dM_sweep_54 rfl (by decide) (fun h54 => ?_) (fun h54 => ?_)
            · refine J.loc (lv' := [(0, _), (1, _), (2, _), (4, _), (6, _), (7, _), (8, _)]) ⟨rfl, rfl, rfl, rfl, rfl, rfl, rfl, trivial⟩ ?_
              have g1 := dec_t h28
              have g2 := dec_t h39
              exact at60 (dec_t h5) (dec_t h14) (by omega) (dec_t h46) (dec_t h54)
            · refine j_bipush (v := (-102)) (p2 := 59) dM_sweep_57 rfl rfl ?_
              refine j_ireturn dM_sweep_59 rfl (by first | (have g := of_decide_eq_false h5; exact h1 (fun z => g z.1)) | (have g := of_decide_eq_false h14; exact h1 (fun z => g z.2)) | (have g := of_decide_eq_false h28; exact h2 (dec_t h5) (dec_t h14) (fun z => g (by have := z.1; omega))) | (have g := of_decide_eq_false h39; exact h2 (dec_t h5) (dec_t h14) (fun z => g (by have := z.1; omega))) | (have g := of_decide_eq_false h46; exact h2 (dec_t h5) (dec_t h14) (fun z => g (finL_num z.2.1))) | (have g := of_decide_eq_false h54; exact h2 (dec_t h5) (dec_t h14) (fun z => g (finL_num z.2.2.1))))
    · refine j_bipush (v := (-101)) (p2 := 19) dM_sweep_17 rfl rfl ?_
      refine j_ireturn dM_sweep_19 rfl (by first | (have g := of_decide_eq_false h5; exact h1 (fun z => g z.1)) | (have g := of_decide_eq_false h14; exact h1 (fun z => g z.2)) | (have g := of_decide_eq_false h28; exact h2 (dec_t h5) (dec_t h14) (fun z => g (by have := z.1; omega))) | (have g := of_decide_eq_false h39; exact h2 (dec_t h5) (dec_t h14) (fun z => g (by have := z.1; omega))) | (have g := of_decide_eq_false h46; exact h2 (dec_t h5) (dec_t h14) (fun z => g (finL_num z.2.1))) | (have g := of_decide_eq_false h54; exact h2 (dec_t h5) (dec_t h14) (fun z => g (finL_num z.2.2.1))))
end RSW
