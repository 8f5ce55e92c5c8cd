/-! THE CLAIM OUT OF ONE WALK OF THE LAW'S BODY. Your part is whole_start (and what it stands on); all else here is the same for every law, but numbers. -/
def R_law : String := "TwinPanelLaw"
def lw_P (b : Addr) (xs : List Int32) (args : Array Value) (s : State) : Prop := args = #[.ref b] ∧ s.IntsAt b xs ∧ xs.length ≤ 4608 ∧ (Jvm.Cond.and given_1 narrow_1).before args s = true
/-- what a walk over the start with the record d0 says of its end, said of the start itself -/
theorem lw_closed {s t : State} {o : Outcome} {d0 : Drawn} {L : List Loc} {k n : Nat} (hd0 : s.drawn.sameBut d0 lw_cs) (hv : ∃ v, o = .returned v) (hW : (s.setDrawn d0).WarmedH t.vm) (hs : (s.setDrawn d0).sameButNew ({ t with vm := s.vm } : State) L k n) : State.butDraws s t lw_cs (fun t1 => Framed s o t1 L k n) := by
  have h2 : t.drawn = d0 := congrArg State.drawn hs.1
  refine ⟨⟨hv, hW, State.sameButNew.setDrawn hs s.drawn⟩, ?_, by decide⟩
  rw [h2]
  exact hd0
def lw_Q (_ : Array Value) (s : State) (o : Outcome) (t : State) : Prop := o = .returned (some (.int 1)) ∧ State.butDraws s t lw_cs (fun t1 => Framed s o t1 [] 117 6651)
def lw_Z (below : List Frame) (a : Array Value) (s : State) : State → Prop := fun t => ∃ o, t.status = .running ∧ Ended t below o ∧ lw_Q a s o t
/-- the law's own end, with 1 on the stack, nothing written that was there before, its room as the claim has it; d0: the record of draws at this point (at the entry s.drawn: begin with 'refine W.base ?_' and 'have hd0 := Drawn.sameBut.refl s.drawn lw_cs') -/
theorem lw_ret {p : Program} {l : Launch} {e : Env} {s : State} {m : MethodId} {below : List Frame} {meth : Method} {c : Code} {b : Nat} {d0 : Drawn} (hd0 : s.drawn.sameBut d0 lw_cs) (hx : p.tables.exec = Jvm.exec) (hb : c.code = code) (hr : meth.sig.returnType = ret) (hlocks : meth.locks = false) {pc : Nat} {H : Heap} {ls : Array Slot} (hdg : decode code pc = .ok (.ireturn, 1)) : W p l e room_1 (s.setDrawn d0) m #[Value.ref b] below meth c H [] 117 6651 (lw_Z below #[Value.ref b] s) (F0 m pc ls [.int 1]) := by
  intro T hT X
  obtain ⟨fs, hret, hrun, hended, hW, hframe⟩ := X.leave (v := some (.int 1)) (hlocks := hlocks) (fun h => by rw [hr] at h; cases h)
  have hmeth' : T.vm.method? m = some meth := X.method'
  refine ⟨T.setFrames fs, ?_, .returned (some (.int 1)), hrun, hended, rfl, lw_closed hd0 ⟨_, rfl⟩ hW hframe⟩
  jvm_step X.here [X.here.top, hx, hb, hdg, hmeth', hr, ret, narrow_b1]
  (try refine ⟨rfl, ?_⟩); (try refine ⟨rfl, ?_⟩)
  first | (intro acts; rw [hret _ acts rfl rfl rfl]) | rw [hret _ _ rfl rfl rfl]
  exact Steps.refl _
/-- what holds at the law's entry: the machine, the code, the tables' words (any of lw_tbl by 'hts w (by decide +kernel)'), the script of L ints xs at the cell b, what the Statement gives of the start (any of its parts by flat_of_before) -/
def lw_At (p : Program) (s : State) (m : MethodId) (meth : Method) (c : Code) (b L : Nat) (xs : Nat → Int32) : Prop :=
  p.tables.exec = Jvm.exec ∧ c.code = code ∧ meth.sig.returnType = ret ∧ c.maxLocals = 4 ∧ s.vm.findClass R_law = some m.cls ∧ (∀ w ∈ lw_tbl, w.before #[Value.ref b] s = true) ∧ va_X b L xs s s.heap ∧ b < s.heap.size ∧ meth.locks = false ∧ (Jvm.Cond.and given_1 narrow_1).before #[Value.ref b] s = true

/-! ===== the law: its frame between calls ===== -/
def Lx (L : Nat) (xs : Nat → Int32) (lv : List (Nat × PV)) (σ : Hp) (p : Program) (s : State) (mid : MethodId) (meth : Method) (c : Code) (H : Heap) (locs : List Loc) (ls : Array Slot) (ad : Nat → Nat) (cA : Nat → ClassId) (D : va_G) : Prop :=
  p.tables.exec = Jvm.exec ∧ c.code = code ∧ c.maxLocals = 4 ∧ meth.sig.returnType = ret ∧ meth.locks = false ∧ s.vm.findClass "TwinPanelLaw" = some mid.cls ∧ (∀ w ∈ tW, w.before #[Value.ref (ad 1001)] s = true) ∧ va_K D vwCl (tysOf cA) s ∧ Adj ad ∧ Sta ad s s.heap ∧ va_P D vwCl (wsOf ad cA σ) H ∧ va_S (fun q : Nat => s.heap.size ≤ q) s.heap H locs ∧ lv_has ls 4 (lvR ad lv) ∧ (∀ c : Nat, c < lay.length → s.heap.size ≤ ad c) ∧ va_X (ad 1001) L xs s s.heap ∧ ad 1001 < s.heap.size
def KJ (L : Nat) (xs : Nat → Int32) (pc : Nat) (lv : List (Nat × PV)) (st : List PV) (σ : Hp) : Prop :=
  ∀ (p : Program) (l : Launch) (e : Env) (s : State) (mid : MethodId) (below : List Frame) (meth : Method) (c : Code) (H : Heap) (locs : List Loc) (ls : Array Slot) (ad : Nat → Nat) (cA : Nat → ClassId) (D : va_G), Lx L xs lv σ p s mid meth c H locs ls ad cA D → W p l e room_1 s mid #[Value.ref (ad 1001)] below meth c H locs 117 6651 (lw_Z below #[Value.ref (ad 1001)] s) (F0 mid pc ls (st.map (rv ad)))
section KJR
variable {L : Nat} {xs : Nat → Int32} {pc p2 : Nat} {lv lv' : List (Nat × PV)} {st : List PV} {σ : Hp}
theorem KJ.go {st2 : List PV} (h : ∀ (p : Program) (l : Launch) (e : Env) (s : State) (mid : MethodId) (below : List Frame) (meth : Method) (c : Code) (H : Heap) (locs : List Loc) (ls : Array Slot) (ad : Nat → Nat) (cA : Nat → ClassId) (D : va_G) (QQ : State → Prop), Lx L xs lv σ p s mid meth c H locs ls ad cA D → W p l e room_1 s mid #[Value.ref (ad 1001)] below meth c H locs 117 6651 QQ (F0 mid p2 ls (st2.map (rv ad))) → W p l e room_1 s mid #[Value.ref (ad 1001)] below meth c H locs 117 6651 QQ (F0 mid pc ls (st.map (rv ad)))) (k : KJ L xs p2 lv st2 σ) : KJ L xs pc lv st σ :=
  fun p l e s mid below meth c H locs ls ad cA D C => h p l e s mid below meth c H locs ls ad cA D _ C (k p l e s mid below meth c H locs ls ad cA D C)
theorem KJ.loc (hl : locOk lv lv') (k : KJ L xs pc lv' st σ) : KJ L xs pc lv st σ := by
  intro p l e s mid below meth c H locs ls ad cA D C
  obtain ⟨c1, c2, c3, c4, c5, c6, c7, c8, c9, c10, c11, c12, c13, c14, c15, c16⟩ := C
  exact k p l e s mid below meth c H locs ls ad cA D ⟨c1, c2, c3, c4, c5, c6, c7, c8, c9, c10, c11, c12, lvR_sub c13 (locOk_mem hl), c14, c15, c16⟩
theorem k_iconst {n : Int} (hd : decode code pc = .ok (.iconst n, 1)) (hp : pc + 1 = p2)  (k : KJ L xs p2 lv (vI n :: st) σ) : KJ L xs pc lv (st) σ := by
  subst hp
  exact KJ.go (fun p l e s mid below meth c H locs ls ad cA D QQ C w => lv_iconst C.1 C.2.1 hd rfl w) k
theorem k_bipush {n : Int} {v : Int} (hd : decode code pc = .ok (.bipush n, 2)) (hp : pc + 2 = p2) (hv : (Int8.ofInt n).toInt32 = iw v) (k : KJ L xs p2 lv (vI v :: st) σ) : KJ L xs pc lv (st) σ := by
  subst hp
  exact KJ.go (fun p l e s mid below meth c H locs ls ad cA D QQ C w => lv_bipush C.1 C.2.1 hd hv w) k
theorem k_ldc2 {i : Nat} {v : Int64} (hd : decode code pc = .ok (.ldc2_w i, 3)) (hp : pc + 3 = p2) (hw : Cond.constantLong "TwinPanelLaw" i v ∈ tW) (k : KJ L xs p2 lv (vL v :: st) σ) : KJ L xs pc lv (st) σ := by
  subst hp
  exact KJ.go (fun p l e s mid below meth c H locs ls ad cA D QQ C w => lv_ldc2 C.1 C.2.1 C.2.2.2.2.2.1 (C.2.2.2.2.2.2.1 _ hw) hd w) k
theorem k_iload_n {i : Fin 4} {x : Int} (hd : decode code pc = .ok (.iload_n i, 1)) (hp : pc + 1 = p2) (hl : lgt lv (i : Nat) = some (vI x)) (k : KJ L xs p2 lv (vI x :: st) σ) : KJ L xs pc lv (st) σ := by
  subst hp
  exact KJ.go (fun p l e s mid below meth c H locs ls ad cA D QQ C w => lv_iload_n C.1 C.2.1 hd rfl (lvR_has C.2.2.2.2.2.2.2.2.2.2.2.2.1 hl) w) k
theorem k_aload_n {i : Fin 4} {x : Nat} (hd : decode code pc = .ok (.aload_n i, 1)) (hp : pc + 1 = p2) (hl : lgt lv (i : Nat) = some (vR x)) (k : KJ L xs p2 lv (vR x :: st) σ) : KJ L xs pc lv (st) σ := by
  subst hp
  exact KJ.go (fun p l e s mid below meth c H locs ls ad cA D QQ C w => lv_aload_n C.1 C.2.1 hd rfl (lvR_has C.2.2.2.2.2.2.2.2.2.2.2.2.1 hl) w) k
theorem k_iadd {a b : Int} (hd : decode code pc = .ok (.iadd, 1)) (hp : pc + 1 = p2)  (k : KJ L xs p2 lv (vI (a + b) :: st) σ) : KJ L xs pc lv (vI b :: vI a :: st) σ := by
  subst hp
  exact KJ.go (fun p l e s mid below meth c H locs ls ad cA D QQ C w => lv_iadd C.1 C.2.1 hd (by rw [iw_add a b]; exact w)) k
theorem k_isub {a b : Int} (hd : decode code pc = .ok (.isub, 1)) (hp : pc + 1 = p2)  (k : KJ L xs p2 lv (vI (a - b) :: st) σ) : KJ L xs pc lv (vI b :: vI a :: st) σ := by
  subst hp
  exact KJ.go (fun p l e s mid below meth c H locs ls ad cA D QQ C w => lv_isub C.1 C.2.1 hd (by rw [iw_sub a b]; exact w)) k
theorem k_iand {a b : Int} (hd : decode code pc = .ok (.iand, 1)) (hp : pc + 1 = p2)  (k : KJ L xs p2 lv (vI (jiand a b) :: st) σ) : KJ L xs pc lv (vI b :: vI a :: st) σ := by
  subst hp
  exact KJ.go (fun p l e s mid below meth c H locs ls ad cA D QQ C w => lv_iand C.1 C.2.1 hd (by have h : (iw a &&& iw b) = iw (jiand a b) := (iw_of _).symm; rw [h]; exact w)) k
theorem k_i2l {a : Int} (hd : decode code pc = .ok (.i2l, 1)) (hp : pc + 1 = p2)  (k : KJ L xs p2 lv (vL (iw a).toInt64 :: st) σ) : KJ L xs pc lv (vI a :: st) σ := by
  subst hp
  exact KJ.go (fun p l e s mid below meth c H locs ls ad cA D QQ C w => lv_i2l C.1 C.2.1 hd rfl w) k
theorem k_lshl {x : Int64} {b : Int} (hd : decode code pc = .ok (.lshl, 1)) (hp : pc + 1 = p2)  (k : KJ L xs p2 lv (vL (jlshl x b) :: st) σ) : KJ L xs pc lv (vI b :: vL x :: st) σ := by
  subst hp
  exact KJ.go (fun p l e s mid below meth c H locs ls ad cA D QQ C w => lv_lshl C.1 C.2.1 hd rfl w) k
theorem k_land {x y : Int64} (hd : decode code pc = .ok (.land, 1)) (hp : pc + 1 = p2)  (k : KJ L xs p2 lv (vL (x &&& y) :: st) σ) : KJ L xs pc lv (vL y :: vL x :: st) σ := by
  subst hp
  exact KJ.go (fun p l e s mid below meth c H locs ls ad cA D QQ C w => lv_land C.1 C.2.1 hd w) k
theorem k_lor {x y : Int64} (hd : decode code pc = .ok (.lor, 1)) (hp : pc + 1 = p2)  (k : KJ L xs p2 lv (vL (x ||| y) :: st) σ) : KJ L xs pc lv (vL y :: vL x :: st) σ := by
  subst hp
  exact KJ.go (fun p l e s mid below meth c H locs ls ad cA D QQ C w => lv_lor C.1 C.2.1 hd w) k
theorem k_goto {off : Int} (hd : decode code pc = .ok (.goto off, 3)) (ht : (pc : Int) + off = (p2 : Int)) (k : KJ L xs p2 lv st σ) : KJ L xs pc lv st σ :=
  KJ.go (fun p l e s mid below meth c H locs ls ad cA D QQ C w => lv_goto C.1 C.2.1 hd ht w) k
theorem k_istore_n {i : Fin 4} {x : Int} (hd : decode code pc = .ok (.istore_n i, 1)) (hp : pc + 1 = p2) (hn : (i : Nat) < 4) (hl : locOk (setL lv (i : Nat) (vI x)) lv') (k : KJ L xs p2 lv' st σ) : KJ L xs pc lv (vI x :: st) σ := by
  subst hp
  intro p l e s mid below meth c H locs ls ad cA D C
  obtain ⟨c1, c2, c3, c4, c5, c6, c7, c8, c9, c10, c11, c12, c13, c14, c15, c16⟩ := C
  refine lv_istore_n c1 c2 hd rfl c13 hn rfl (fun ls2 h2 => ?_)
  exact k p l e s mid below meth c H locs ls2 ad cA D ⟨c1, c2, c3, c4, c5, c6, c7, c8, c9, c10, c11, c12, setL_1 rfl hl h2, c14, c15, c16⟩
theorem k_iinc {i : Nat} {n x : Int} (hd : decode code pc = .ok (.iinc i n, 3)) (hp : pc + 3 = p2) (hn : i < 4) (hx : lgt lv i = some (vI x)) (hl : locOk (setL lv i (vI (x + n))) lv') (k : KJ L xs p2 lv' st σ) : KJ L xs pc lv st σ := by
  subst hp
  intro p l e s mid below meth c H locs ls ad cA D C
  obtain ⟨c1, c2, c3, c4, c5, c6, c7, c8, c9, c10, c11, c12, c13, c14, c15, c16⟩ := C
  obtain ⟨kx, hkx⟩ := List.getElem?_of_mem (List.mem_map.mpr ⟨(i, vI x), lgt_mem hx, rfl⟩ : (i, rv ad (vI x)) ∈ lvR ad lv)
  refine lv_iinc (v := iw (x + n)) c1 c2 hd c13 hkx (by show iw x + iw n = _; exact iw_add x n) hn rfl (fun ls2 h2 => ?_)
  exact k p l e s mid below meth c H locs ls2 ad cA D ⟨c1, c2, c3, c4, c5, c6, c7, c8, c9, c10, c11, c12, setL_1 rfl hl h2, c14, c15, c16⟩
theorem k_sld {i : Int} (hd : decode code pc = .ok (.iaload, 1)) (hp : pc + 1 = p2) (h0 : 0 ≤ i) (h1 : i < L) (h2 : L ≤ 4608) (k : KJ L xs p2 lv (vI (xs i.toNat).toInt :: st) σ) : KJ L xs pc lv (vI i :: vR 1001 :: st) σ := by
  subst hp
  refine KJ.go (fun p l e s mid below meth c H locs ls ad cA D QQ C w => ?_) k
  obtain ⟨c1, c2, c3, c4, c5, c6, c7, c8, c9, c10, c11, c12, c13, c14, c15, c16⟩ := C
  refine va_sld c1 c2 c15 c16 (Nat.not_le.mpr c16) c12 (iw_in h0 h1 (by omega)) hd ?_
  rw [iw_clamp h0 (by omega)]
  have e : rv ad (vI (xs i.toNat).toInt) = .int (xs i.toNat) := by show Value.int (iw _) = _; rw [iw_of]
  rw [← e]
  exact w
theorem k_slen (hd : decode code pc = .ok (.arraylength, 1)) (hp : pc + 1 = p2) (k : KJ L xs p2 lv (vI L :: st) σ) : KJ L xs pc lv (vR 1001 :: st) σ := by
  subst hp
  refine KJ.go (fun p l e s mid below meth c H locs ls ad cA D QQ C w => ?_) k
  obtain ⟨c1, c2, c3, c4, c5, c6, c7, c8, c9, c10, c11, c12, c13, c14, c15, c16⟩ := C
  refine va_slen c1 c2 c15 c16 (Nat.not_le.mpr c16) c12 hd ?_
  exact w
theorem k_icmp_gt {a b : Int} {off : Int} {tg : Nat} (hd : decode code pc = .ok (.if_icmp .gt off, 3)) (hp : pc + 3 = p2) (ht : (pc : Int) + off = (tg : Int)) (ha : inR a) (hb : inR b) (kt : b < a → KJ L xs tg lv st σ) (kf : a ≤ b → KJ L xs p2 lv st σ) : KJ L xs pc lv (vI b :: vI a :: st) σ := by
  subst hp
  exact fun p l e s mid below meth c H locs ls ad cA D C => lv_icmp_gt C.1 C.2.1 hd ht (fun q => kt ((iw_lt hb ha).mp q) p l e s mid below meth c H locs ls ad cA D C) (fun q => kf (Int.not_lt.mp fun h => q ((iw_lt hb ha).mpr h)) p l e s mid below meth c H locs ls ad cA D C)
theorem k_if_eq {a : Int} {off : Int} {tg : Nat} (hd : decode code pc = .ok (.ifCond .eq off, 3)) (hp : pc + 3 = p2) (ht : (pc : Int) + off = (tg : Int)) (ha : inR a) (kt : a = 0 → KJ L xs tg lv st σ) (kf : ¬ a = 0 → KJ L xs p2 lv st σ) : KJ L xs pc lv (vI a :: st) σ := by
  subst hp
  have h0 : inR 0 := ⟨by omega, by omega⟩
  exact fun p l e s mid below meth c H locs ls ad cA D C => lv_if_eq C.1 C.2.1 hd ht (fun q => kt ((iw_eq ha h0).mp q) p l e s mid below meth c H locs ls ad cA D C) (fun q => kf (fun h => q ((iw_eq ha h0).mpr h)) p l e s mid below meth c H locs ls ad cA D C)
/-- two answers that are one -/
theorem k_icmp_same {a : Int} {off : Int} {tg : Nat} (hd : decode code pc = .ok (.if_icmp .eq off, 3)) (ht : (pc : Int) + off = (tg : Int)) (kt : KJ L xs tg lv st σ) : KJ L xs pc lv (vI a :: vI a :: st) σ :=
  fun p l e s mid below meth c H locs ls ad cA D C => lv_icmp_eq C.1 C.2.1 hd ht (fun _ => kt p l e s mid below meth c H locs ls ad cA D C) (fun q => absurd rfl q)
theorem k_lcmp_same {x : Int64} {off : Int} {p1 tg : Nat} (hd : decode code pc = .ok (.lcmp, 1)) (h1 : pc + 1 = p1) (hd2 : decode code p1 = .ok (.ifCond .eq off, 3)) (ht : (p1 : Int) + off = (tg : Int)) (kt : KJ L xs tg lv st σ) : KJ L xs pc lv (vL x :: vL x :: st) σ := by
  subst h1
  exact fun p l e s mid below meth c H locs ls ad cA D C => W.lcmp C.1 C.2.1 hd (lv_if_eq C.1 C.2.1 hd2 ht (fun _ => kt p l e s mid below meth c H locs ls ad cA D C) (fun q => absurd ((lg_cmp_eq _ _).mpr rfl) q))
theorem k_tsw_in {a : Int} {dflt lo hi off : Int} {offs : Array Int} {len tg : Nat} (hd : decode code pc = .ok (.tableswitch dflt lo hi offs, len)) (ha : inR a) (h1 : lo ≤ a) (h2 : a ≤ hi) (ho : offs[(a - lo).toNat]? = some off) (ht : (pc : Int) + off = (tg : Int)) (k : KJ L xs tg lv st σ) : KJ L xs pc lv (vI a :: st) σ :=
  KJ.go (fun p l e s mid below meth c H locs ls ad cA D QQ C w => lv_tableIn C.1 C.2.1 hd (by rw [iw_toInt ha]; omega) (by rw [iw_toInt ha]; omega) (by rw [iw_toInt ha]; exact ho) ht w) k
theorem k_tsw_out {a : Int} {dflt lo hi : Int} {offs : Array Int} {len tg : Nat} (hd : decode code pc = .ok (.tableswitch dflt lo hi offs, len)) (ha : inR a) (h1 : a < lo ∨ hi < a) (ht : (pc : Int) + dflt = (tg : Int)) (k : KJ L xs tg lv st σ) : KJ L xs pc lv (vI a :: st) σ :=
  KJ.go (fun p l e s mid below meth c H locs ls ad cA D QQ C w => lv_tableOut C.1 C.2.1 hd (by rw [iw_toInt ha]; exact h1) ht w) k
theorem k_ret (hd : decode code pc = .ok (.ireturn, 1)) : KJ L xs pc lv [vI 1] σ := by
  intro p l e s mid below meth c H locs ls ad cA D C
  obtain ⟨c1, c2, c3, c4, c5, c6, c7, c8, c9, c10, c11, c12, c13, c14, c15, c16⟩ := C
  refine va_forget c12.2.2 ?_
  refine W.base ?_
  exact lw_ret (Drawn.sameBut.refl s.drawn lw_cs) c1 c2 c4 c5 hd
theorem pre0_law {p : Program} {s : State} {mid : MethodId} {meth : Method} {c : Code} {H : Heap} {locs : List Loc} {ls : Array Slot} {ad : Nat → Nat} {cA : Nat → ClassId} {D : va_G} (C : Lx L xs lv σ p s mid meth c H locs ls ad cA D) (U : State) (hU : U.heap = H) (hW : s.WarmedH U.vm) : Pre0 ad cA D σ U := by
  obtain ⟨c1, c2, c3, c4, c5, c6, c7, c8, c9, c10, c11, c12, c13, c14, c15, c16⟩ := C
  refine ⟨by rw [hU]; exact c11, va_K.moved hW.alike c8, c9, ?_, (Nst.of c7).moved hW⟩
  rw [hU]
  exact (c10.kept (fun a h1 _ => c12.2.1 a h1 (Nat.not_le.mpr h1))).moved hW.alike
theorem KJ_behind {Q : Option PV → Hp → Prop} {p : Program} {l : Launch} {e : Env} {s : State} {mid : MethodId} {below : List Frame} {meth : Method} {c : Code} {H : Heap} {locs : List Loc} {ls : Array Slot} {ad : Nat → Nat} {cA : Nat → ClassId} {D : va_G} {st0 : List Value} {a : Array Value} (C : Lx L xs lv σ p s mid meth c H locs ls ad cA D)
    (hr : va_Run p l e room_1 s mid #[Value.ref (ad 1001)] below meth c H locs 117 6651 0 0 (F0 mid pc ls st0) (st.map (rv ad)) (Qcc ad cA D (fun r σ' => KJ L xs (pc + 3) lv (r.toList ++ st) σ') a) (Aw ad)) :
    W p l e room_1 s mid #[Value.ref (ad 1001)] below meth c H locs 117 6651 (lw_Z below #[Value.ref (ad 1001)] s) (F0 mid pc ls st0) := by
  obtain ⟨c1, c2, c3, c4, c5, c6, c7, c8, c9, c10, c11, c12, c13, c14, c15, c16⟩ := C
  intro T hT X
  obtain ⟨v, st₀, t, T', Lo, h0, X', hL, e1, e2, ⟨⟨r, σ', hv, hq, hP⟩, hz, hk⟩, go⟩ := hr T hT X
  have hvr : v = r.map (rv ad) := by injection hv
  rw [h0] at hz hk
  have hAw : ∀ q : Nat, Aw ad q → s.heap.size ≤ q := fun q ⟨x, h1, h2⟩ => by rw [h2]; exact c14 x h1
  have hS : va_S (fun q : Nat => s.heap.size ≤ q) s.heap T'.heap (locs ++ Lo) := ⟨Nat.le_trans c12.1 (by rw [e1]; exact hz), fun q h1 h2 => by rw [e1, hk q (Nat.lt_of_lt_of_le h1 c12.1) (fun z => h2 (hAw q z))]; exact c12.2.1 q h1 h2, fun q hq => by
      rcases List.mem_append.mp hq with h | h
      · exact c12.2.2 q h
      · exact hAw _ (hL q h)⟩
  rw [← e1] at hP
  obtain ⟨t2, a1, b1⟩ := hq p l e s mid below meth c T'.heap (locs ++ Lo) ls ad cA D ⟨c1, c2, c3, c4, c5, c6, c7, c8, c9, c10, hP, hS, c13, c14, c15, c16⟩ T' rfl X'
  refine ⟨t2, go t2 ?_, b1⟩
  have hst : (r.toList ++ st).map (rv ad) = v.toList ++ st.map (rv ad) := by
    rw [hvr, List.map_append]
    cases r <;> rfl
  rw [hst] at a1
  exact a1
theorem k_callV {m' : Mt} {idx n cc ci : Nat} {As stk : List PV} {fds : List (Nat × Nat)} (hd : decode code pc = .ok (.invokevirtual idx, 3)) (hp : pc + 3 = p2) (hl : Cond.methodLink "TwinPanelLaw" idx (My m') ∈ tW) (hok : Mok m' n) (hin : Cond.instanceMethod (My m') ∈ tW) (hse : Cond.selects (My m').cls (My m') (My m') ∈ tW) (hn : As.length = n) (hs : stk = As.reverse ++ vR cc :: st) (hsum : slotsOf st ≤ 8) (hc : lay[cc]? = some (.inr (ci, fds))) (hci : (vwCl[ci]?).map (fun q => q.1) = some (My m').cls) (hlen : slotsOf (vR cc :: As) ≤ Mn m') (hR : Mf m' + 1 ≤ 10 ∧ 8 + (Mn m' + 11) + Ml m' ≤ 444)
    (h : Sp m' (vR cc :: As) σ (fun r σ' => KJ L xs p2 lv (r.toList ++ st) σ')) : KJ L xs pc lv stk σ := by
  subst hp
  subst hs
  intro p l e s mid below meth c H locs ls ad cA D C
  have C0 := C
  obtain ⟨c1, c2, c3, c4, c5, c6, c7, c8, c9, c10, c11, c12, c13, c14, c15, c16⟩ := C
  obtain ⟨q, hq1, hq2⟩ := Option.map_eq_some_iff.mp hci
  have hrecv := va_recv c8 c11 hq1 (ws_get hc)
  rw [hq2] at hrecv
  refine KJ_behind (st := st) (Q := fun _ _ => True) (a := (Value.ref (ad cc) :: As.map (rv ad)).toArray) C0 ?_
  refine va_runV (Ts := tW) (own := "TwinPanelLaw") (C := (My m').cls) (y := My m') (bytes := Mc m') (maxL := Mn m') (ret := Mr m') (n := n) (As := As.map (rv ad)) (b := ad cc) (nL := 4) ⟨c1, c2, c3, c6, c7⟩ (h.met hok hlen l ad cA D) ⟨callB_of n c7 (wsM_good hok) rfl rfl rfl (c7 _ hok.2.1) (c7 _ hl) hok.2.2.1 hR, c7 _ hin, c7 _ hse⟩ ⟨blind_Pre0 _ ad cA D σ, hrecv, fun U hU hW => ⟨rfl, pre0_law C0 U hU hW⟩⟩ rfl (by rw [List.length_map]; exact hn) c13.1 ?_ ?_ hd ⟨Nat.le_refl _, Nat.le_refl _⟩
  · show List.map (rv ad) (As.reverse ++ vR cc :: st) = _
    rw [List.map_append, List.map_reverse]; rfl
  · refine lv_room ?_
    rw [st_sum]; exact hsum
end KJR
