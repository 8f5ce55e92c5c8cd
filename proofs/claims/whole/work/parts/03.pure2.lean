/-! ===== the judgement ===== -/
def isNestF (w : Cond) : Bool := match w with
  | .fieldLinkNest .. => true
  | _ => false
/-- the tables' words that every method keeps -/
def tG : List Cond := lw_tbl.filter goodWord
def tW : List Cond := lw_tbl.filter (fun w => goodWord w || isNestF w)
def Mo (m : Mt) : String := m.1
def My (m : Mt) : MethodName := m.2.1
def Mc (m : Mt) : ByteArray := m.2.2.1
def Mn (m : Mt) : Nat := m.2.2.2.1
def Mr (m : Mt) : Option FieldType := m.2.2.2.2.1
def Mf (m : Mt) : Nat := m.2.2.2.2.2.1
def Ml (m : Mt) : Nat := m.2.2.2.2.2.2
def rmOf (m : Mt) : Room := { frames := Mf m, cells := 0, slots := 0, locals := Ml m }
def Dec (m : Mt) (pc : Nat) (i : Instr) (n : Nat) : Prop := decode (Mc m) pc = .ok (i, n)
def NEED (j : Nat) : Int := match j with
  | 0 => -1 | 1 => 1 | 2 => -1 | 3 => 3 | 4 => 3 | 5 => 3 | 6 => 1 | 7 => 1 | 8 => 3 | 9 => 7 | 10 => 1 | 11 => 1 | 12 => 1 | _ => 0
def Sta (ad : Nat → Nat) (U : State) (H : Heap) : Prop := va_Z "TwinPanel" "NEEDED" "[I" (.ref (ad 1000)) (Aw ad) U H ∧ va_T .int (ad 1000) 14 (fun j => .int (iw (NEED j))) (Aw ad) U H
def Cx (m : Mt) (lv : List (Nat × PV)) (σ : Hp) (p : Program) (s : State) (mid : MethodId) (args : Array Value) (meth : Method) (c : Code) (H : Heap) (locs : List Loc) (ls : Array Slot) (ad : Nat → Nat) (cA : Nat → ClassId) (D : va_G) : Prop :=
  p.tables.exec = Jvm.exec ∧ c.code = Mc m ∧ c.maxLocals = Mn m ∧ meth.sig.returnType = Mr m ∧ meth.locks = false ∧ s.vm.findClass (Mo m) = some mid.cls ∧ (∀ w ∈ tW, w.before args s = true) ∧ va_K D vwCl (tysOf cA) s ∧ Adj ad ∧ Sta ad s s.heap ∧ va_P D vwCl (wsOf ad cA σ) H ∧ va_S (Aw ad) s.heap H locs ∧ lv_has ls (Mn m) (lvR ad lv)
def Qcc (ad : Nat → Nat) (cA : Nat → ClassId) (D : va_G) (Q : Option PV → Hp → Prop) : Array Value → State → Outcome → State → Prop := fun _ st oc t => (∃ (r : Option PV) (σ' : Hp), oc = .returned (r.map (rv ad)) ∧ Q r σ' ∧ va_P D vwCl (wsOf ad cA σ') t.heap) ∧ va_F (Aw ad) st t
def J (m : Mt) (pc : Nat) (lv : List (Nat × PV)) (st : List PV) (σ : Hp) (Q : Option PV → Hp → Prop) : Prop :=
  ∀ (p : Program) (l : Launch) (e : Env) (s : State) (mid : MethodId) (args : Array Value) (below : List Frame) (meth : Method) (c : Code) (H : Heap) (locs : List Loc) (ls : Array Slot) (ad : Nat → Nat) (cA : Nat → ClassId) (D : va_G), Cx m lv σ p s mid args meth c H locs ls ad cA D → W p l e (rmOf m) s mid args below meth c H locs 0 0 (MQ below (Qcc ad cA D Q) args s 0 0 (Aw ad)) (F0 mid pc ls (st.map (rv ad)))
theorem J.go {m : Mt} {pc p2 : Nat} {lv : List (Nat × PV)} {st st2 : List PV} {σ : Hp} {Q : Option PV → Hp → Prop} (h : ∀ (p : Program) (l : Launch) (e : Env) (s : State) (mid : MethodId) (args : Array Value) (below : List Frame) (meth : Method) (c : Code) (H : Heap) (locs : List Loc) (ls : Array Slot) (ad : Nat → Nat) (cA : Nat → ClassId) (D : va_G) (QQ : State → Prop), Cx m lv σ p s mid args meth c H locs ls ad cA D → W p l e (rmOf m) s mid args below meth c H locs 0 0 QQ (F0 mid p2 ls (st2.map (rv ad))) → W p l e (rmOf m) s mid args below meth c H locs 0 0 QQ (F0 mid pc ls (st.map (rv ad)))) (k : J m p2 lv st2 σ Q) : J m pc lv st σ Q :=
  fun p l e s mid args below meth c H locs ls ad cA D C => h p l e s mid args below meth c H locs ls ad cA D _ C (k p l e s mid args below meth c H locs ls ad cA D C)
theorem Qcc.mono {ad : Nat → Nat} {cA : Nat → ClassId} {D : va_G} {Q Q2 : Option PV → Hp → Prop} (h : ∀ r σ, Q r σ → Q2 r σ) {a : Array Value} {s : State} {o : Outcome} {t : State} (hq : Qcc ad cA D Q a s o t) : Qcc ad cA D Q2 a s o t := by
  obtain ⟨⟨r, σ', h1, h2, h3⟩, h4⟩ := hq
  exact ⟨⟨r, σ', h1, h r σ' h2, h3⟩, h4⟩
theorem J.mono {m : Mt} {pc : Nat} {lv : List (Nat × PV)} {st : List PV} {σ : Hp} {Q Q2 : Option PV → Hp → Prop} (k : J m pc lv st σ Q) (h : ∀ r σ, Q r σ → Q2 r σ) : J m pc lv st σ Q2 := by
  intro p l e s mid args below meth c H locs ls ad cA D C T hT X
  obtain ⟨t, a, o, b1, b2, b3, b4⟩ := k p l e s mid args below meth c H locs ls ad cA D C T hT X
  exact ⟨t, a, o, b1, b2, b3.mono h, b4⟩
theorem J.loc {m : Mt} {pc : Nat} {lv lv' : List (Nat × PV)} {st : List PV} {σ : Hp} {Q : Option PV → Hp → Prop} (hl : locOk lv lv') (k : J m pc lv' st σ Q) : J m pc lv st σ Q := by
  intro p l e s mid args below meth c H locs ls ad cA D C
  obtain ⟨c1, c2, c3, c4, c5, c6, c7, c8, c9, c10, c11, c12, c13⟩ := C
  exact k p l e s mid args below meth c H locs ls ad cA D ⟨c1, c2, c3, c4, c5, c6, c7, c8, c9, c10, c11, c12, lvR_sub c13 (locOk_mem hl)⟩
section JR
variable {m : Mt} {pc p2 : Nat} {lv lv' : List (Nat × PV)} {st : List PV} {σ : Hp} {Q : Option PV → Hp → Prop}

theorem j_iconst {n : Int} (hd : Dec m pc (.iconst n) 1) (hp : pc + 1 = p2)  (k : J m p2 lv (vI n :: st) σ Q) : J m pc lv (st) σ Q := by
  subst hp
  exact J.go (fun p l e s mid args below meth c H locs ls ad cA D QQ C w => lv_iconst C.1 C.2.1 hd rfl w) k
theorem j_bipush {n : Int} {v : Int} (hd : Dec m pc (.bipush n) 2) (hp : pc + 2 = p2) (hv : (Int8.ofInt n).toInt32 = iw v) (k : J m p2 lv (vI v :: st) σ Q) : J m pc lv (st) σ Q := by
  subst hp
  exact J.go (fun p l e s mid args below meth c H locs ls ad cA D QQ C w => lv_bipush C.1 C.2.1 hd hv w) k
theorem j_sipush {n : Int} {v : Int} (hd : Dec m pc (.sipush n) 3) (hp : pc + 3 = p2) (hv : (Int16.ofInt n).toInt32 = iw v) (k : J m p2 lv (vI v :: st) σ Q) : J m pc lv (st) σ Q := by
  subst hp
  exact J.go (fun p l e s mid args below meth c H locs ls ad cA D QQ C w => lv_sipush C.1 C.2.1 hd hv w) k
theorem j_lconst {n : Fin 2} {v : Int64} (hd : Dec m pc (.lconst n) 1) (hp : pc + 1 = p2) (hv : Int64.ofNat (n : Nat) = v) (k : J m p2 lv (vL v :: st) σ Q) : J m pc lv (st) σ Q := by
  subst hp
  exact J.go (fun p l e s mid args below meth c H locs ls ad cA D QQ C w => lv_lconst C.1 C.2.1 hd hv w) k
theorem j_fconst0  (hd : Dec m pc (.fconst 0) 1) (hp : pc + 1 = p2)  (k : J m p2 lv (vF FP.fconst0 :: st) σ Q) : J m pc lv (st) σ Q := by
  subst hp
  exact J.go (fun p l e s mid args below meth c H locs ls ad cA D QQ C w => lv_fconst0 C.1 C.2.1 hd w) k
theorem j_fconst1  (hd : Dec m pc (.fconst 1) 1) (hp : pc + 1 = p2)  (k : J m p2 lv (vF FP.fconst1 :: st) σ Q) : J m pc lv (st) σ Q := by
  subst hp
  exact J.go (fun p l e s mid args below meth c H locs ls ad cA D QQ C w => lv_fconst1 C.1 C.2.1 hd w) k
theorem j_fconst2  (hd : Dec m pc (.fconst 2) 1) (hp : pc + 1 = p2)  (k : J m p2 lv (vF FP.fconst2 :: st) σ Q) : J m pc lv (st) σ Q := by
  subst hp
  exact J.go (fun p l e s mid args below meth c H locs ls ad cA D QQ C w => lv_fconst2 C.1 C.2.1 hd w) k
theorem j_dconst0  (hd : Dec m pc (.dconst 0) 1) (hp : pc + 1 = p2)  (k : J m p2 lv (vD FP.dconst0 :: st) σ Q) : J m pc lv (st) σ Q := by
  subst hp
  exact J.go (fun p l e s mid args below meth c H locs ls ad cA D QQ C w => lv_dconst0 C.1 C.2.1 hd w) k
theorem j_dconst1  (hd : Dec m pc (.dconst 1) 1) (hp : pc + 1 = p2)  (k : J m p2 lv (vD FP.dconst1 :: st) σ Q) : J m pc lv (st) σ Q := by
  subst hp
  exact J.go (fun p l e s mid args below meth c H locs ls ad cA D QQ C w => lv_dconst1 C.1 C.2.1 hd w) k
theorem j_ldc {i : Nat} {v : Int} (hd : Dec m pc (.ldc i) 2) (hp : pc + 2 = p2) (hw : Cond.constant (Mo m) i (iw v) ∈ tW) (k : J m p2 lv (vI v :: st) σ Q) : J m pc lv (st) σ Q := by
  subst hp
  exact J.go (fun p l e s mid args below meth c H locs ls ad cA D QQ C w => lv_ldc C.1 C.2.1 C.2.2.2.2.2.1 (C.2.2.2.2.2.2.1 _ hw) hd w) k
theorem j_ldcf {i : Nat} {v : UInt32} (hd : Dec m pc (.ldc i) 2) (hp : pc + 2 = p2) (hw : Cond.constantFloat (Mo m) i v ∈ tW) (k : J m p2 lv (vF v :: st) σ Q) : J m pc lv (st) σ Q := by
  subst hp
  exact J.go (fun p l e s mid args below meth c H locs ls ad cA D QQ C w => lv_ldcf C.1 C.2.1 C.2.2.2.2.2.1 (C.2.2.2.2.2.2.1 _ hw) hd w) k
theorem j_ldcw {i : Nat} {v : Int} (hd : Dec m pc (.ldc_w i) 3) (hp : pc + 3 = p2) (hw : Cond.constant (Mo m) i (iw v) ∈ tW) (k : J m p2 lv (vI v :: st) σ Q) : J m pc lv (st) σ Q := by
  subst hp
  exact J.go (fun p l e s mid args below meth c H locs ls ad cA D QQ C w => lv_ldcw C.1 C.2.1 C.2.2.2.2.2.1 (C.2.2.2.2.2.2.1 _ hw) hd w) k
theorem j_ldc2 {i : Nat} {v : Int64} (hd : Dec m pc (.ldc2_w i) 3) (hp : pc + 3 = p2) (hw : Cond.constantLong (Mo m) i v ∈ tW) (k : J m p2 lv (vL v :: st) σ Q) : J m pc lv (st) σ Q := by
  subst hp
  exact J.go (fun p l e s mid args below meth c H locs ls ad cA D QQ C w => lv_ldc2 C.1 C.2.1 C.2.2.2.2.2.1 (C.2.2.2.2.2.2.1 _ hw) hd w) k
theorem j_ldc2d {i : Nat} {v : UInt64} (hd : Dec m pc (.ldc2_w i) 3) (hp : pc + 3 = p2) (hw : Cond.constantDouble (Mo m) i v ∈ tW) (k : J m p2 lv (vD v :: st) σ Q) : J m pc lv (st) σ Q := by
  subst hp
  exact J.go (fun p l e s mid args below meth c H locs ls ad cA D QQ C w => lv_ldc2d C.1 C.2.1 C.2.2.2.2.2.1 (C.2.2.2.2.2.2.1 _ hw) hd w) k
theorem j_iload_n {i : Fin 4} {x : Int} (hd : Dec m pc (.iload_n i) 1) (hp : pc + 1 = p2) (hl : lgt lv (i : Nat) = some (vI x)) (k : J m p2 lv (vI x :: st) σ Q) : J m pc lv (st) σ Q := by
  subst hp
  exact J.go (fun p l e s mid args below meth c H locs ls ad cA D QQ C w => lv_iload_n C.1 C.2.1 hd rfl (lvR_has C.2.2.2.2.2.2.2.2.2.2.2.2 hl) w) k
theorem j_iload {i : Nat} {x : Int} (hd : Dec m pc (.iload i) 2) (hp : pc + 2 = p2) (hl : lgt lv i = some (vI x)) (k : J m p2 lv (vI x :: st) σ Q) : J m pc lv (st) σ Q := by
  subst hp
  exact J.go (fun p l e s mid args below meth c H locs ls ad cA D QQ C w => lv_iload C.1 C.2.1 hd (lvR_has C.2.2.2.2.2.2.2.2.2.2.2.2 hl) w) k
theorem j_lload_n {i : Fin 4} {x : Int64} (hd : Dec m pc (.lload_n i) 1) (hp : pc + 1 = p2) (hl : lgt lv (i : Nat) = some (vL x)) (k : J m p2 lv (vL x :: st) σ Q) : J m pc lv (st) σ Q := by
  subst hp
  exact J.go (fun p l e s mid args below meth c H locs ls ad cA D QQ C w => lv_lload_n C.1 C.2.1 hd rfl (lvR_has C.2.2.2.2.2.2.2.2.2.2.2.2 hl) w) k
theorem j_lload {i : Nat} {x : Int64} (hd : Dec m pc (.lload i) 2) (hp : pc + 2 = p2) (hl : lgt lv i = some (vL x)) (k : J m p2 lv (vL x :: st) σ Q) : J m pc lv (st) σ Q := by
  subst hp
  exact J.go (fun p l e s mid args below meth c H locs ls ad cA D QQ C w => lv_lload C.1 C.2.1 hd (lvR_has C.2.2.2.2.2.2.2.2.2.2.2.2 hl) w) k
theorem j_fload_n {i : Fin 4} {x : UInt32} (hd : Dec m pc (.fload_n i) 1) (hp : pc + 1 = p2) (hl : lgt lv (i : Nat) = some (vF x)) (k : J m p2 lv (vF x :: st) σ Q) : J m pc lv (st) σ Q := by
  subst hp
  exact J.go (fun p l e s mid args below meth c H locs ls ad cA D QQ C w => lv_fload_n C.1 C.2.1 hd rfl (lvR_has C.2.2.2.2.2.2.2.2.2.2.2.2 hl) w) k
theorem j_fload {i : Nat} {x : UInt32} (hd : Dec m pc (.fload i) 2) (hp : pc + 2 = p2) (hl : lgt lv i = some (vF x)) (k : J m p2 lv (vF x :: st) σ Q) : J m pc lv (st) σ Q := by
  subst hp
  exact J.go (fun p l e s mid args below meth c H locs ls ad cA D QQ C w => lv_fload C.1 C.2.1 hd (lvR_has C.2.2.2.2.2.2.2.2.2.2.2.2 hl) w) k
theorem j_dload_n {i : Fin 4} {x : UInt64} (hd : Dec m pc (.dload_n i) 1) (hp : pc + 1 = p2) (hl : lgt lv (i : Nat) = some (vD x)) (k : J m p2 lv (vD x :: st) σ Q) : J m pc lv (st) σ Q := by
  subst hp
  exact J.go (fun p l e s mid args below meth c H locs ls ad cA D QQ C w => lv_dload_n C.1 C.2.1 hd rfl (lvR_has C.2.2.2.2.2.2.2.2.2.2.2.2 hl) w) k
theorem j_dload {i : Nat} {x : UInt64} (hd : Dec m pc (.dload i) 2) (hp : pc + 2 = p2) (hl : lgt lv i = some (vD x)) (k : J m p2 lv (vD x :: st) σ Q) : J m pc lv (st) σ Q := by
  subst hp
  exact J.go (fun p l e s mid args below meth c H locs ls ad cA D QQ C w => lv_dload C.1 C.2.1 hd (lvR_has C.2.2.2.2.2.2.2.2.2.2.2.2 hl) w) k
theorem j_aload_n {i : Fin 4} {x : Nat} (hd : Dec m pc (.aload_n i) 1) (hp : pc + 1 = p2) (hl : lgt lv (i : Nat) = some (vR x)) (k : J m p2 lv (vR x :: st) σ Q) : J m pc lv (st) σ Q := by
  subst hp
  exact J.go (fun p l e s mid args below meth c H locs ls ad cA D QQ C w => lv_aload_n C.1 C.2.1 hd rfl (lvR_has C.2.2.2.2.2.2.2.2.2.2.2.2 hl) w) k
theorem j_aload {i : Nat} {x : Nat} (hd : Dec m pc (.aload i) 2) (hp : pc + 2 = p2) (hl : lgt lv i = some (vR x)) (k : J m p2 lv (vR x :: st) σ Q) : J m pc lv (st) σ Q := by
  subst hp
  exact J.go (fun p l e s mid args below meth c H locs ls ad cA D QQ C w => lv_aload C.1 C.2.1 hd (lvR_has C.2.2.2.2.2.2.2.2.2.2.2.2 hl) w) k
theorem j_istore_n {i : Fin 4} {x : Int} (hd : Dec m pc (.istore_n i) 1) (hp : pc + 1 = p2) (hn : (i : Nat) < Mn m) (hl : locOk (setL lv (i : Nat) (vI x)) lv') (k : J m p2 lv' st σ Q) : J m pc lv (vI x :: st) σ Q := by
  subst hp
  intro p l e s mid args below meth c H locs ls ad cA D C
  have h13 := C.2.2.2.2.2.2.2.2.2.2.2.2
  refine lv_istore_n C.1 C.2.1 hd rfl h13 hn rfl (fun ls2 h2 => ?_)
  obtain ⟨c1, c2, c3, c4, c5, c6, c7, c8, c9, c10, c11, c12, c13⟩ := C
  exact k p l e s mid args below meth c H locs ls2 ad cA D ⟨c1, c2, c3, c4, c5, c6, c7, c8, c9, c10, c11, c12, setL_1 rfl hl h2⟩
theorem j_istore {i : Nat} {x : Int} (hd : Dec m pc (.istore i) 2) (hp : pc + 2 = p2) (hn : i < Mn m) (hl : locOk (setL lv i (vI x)) lv') (k : J m p2 lv' st σ Q) : J m pc lv (vI x :: st) σ Q := by
  subst hp
  intro p l e s mid args below meth c H locs ls ad cA D C
  have h13 := C.2.2.2.2.2.2.2.2.2.2.2.2
  refine lv_istore C.1 C.2.1 hd h13 hn rfl (fun ls2 h2 => ?_)
  obtain ⟨c1, c2, c3, c4, c5, c6, c7, c8, c9, c10, c11, c12, c13⟩ := C
  exact k p l e s mid args below meth c H locs ls2 ad cA D ⟨c1, c2, c3, c4, c5, c6, c7, c8, c9, c10, c11, c12, setL_1 rfl hl h2⟩
theorem j_lstore_n {i : Fin 4} {x : Int64} (hd : Dec m pc (.lstore_n i) 1) (hp : pc + 1 = p2) (hn : (i : Nat) + 1 < Mn m) (hl : locOk (setL lv (i : Nat) (vL x)) lv') (k : J m p2 lv' st σ Q) : J m pc lv (vL x :: st) σ Q := by
  subst hp
  intro p l e s mid args below meth c H locs ls ad cA D C
  have h13 := C.2.2.2.2.2.2.2.2.2.2.2.2
  refine lv_lstore_n C.1 C.2.1 hd rfl h13 hn rfl (fun ls2 h2 => ?_)
  obtain ⟨c1, c2, c3, c4, c5, c6, c7, c8, c9, c10, c11, c12, c13⟩ := C
  exact k p l e s mid args below meth c H locs ls2 ad cA D ⟨c1, c2, c3, c4, c5, c6, c7, c8, c9, c10, c11, c12, setL_2 rfl hl h2⟩
theorem j_lstore {i : Nat} {x : Int64} (hd : Dec m pc (.lstore i) 2) (hp : pc + 2 = p2) (hn : i + 1 < Mn m) (hl : locOk (setL lv i (vL x)) lv') (k : J m p2 lv' st σ Q) : J m pc lv (vL x :: st) σ Q := by
  subst hp
  intro p l e s mid args below meth c H locs ls ad cA D C
  have h13 := C.2.2.2.2.2.2.2.2.2.2.2.2
  refine lv_lstore C.1 C.2.1 hd h13 hn rfl (fun ls2 h2 => ?_)
  obtain ⟨c1, c2, c3, c4, c5, c6, c7, c8, c9, c10, c11, c12, c13⟩ := C
  exact k p l e s mid args below meth c H locs ls2 ad cA D ⟨c1, c2, c3, c4, c5, c6, c7, c8, c9, c10, c11, c12, setL_2 rfl hl h2⟩
theorem j_fstore_n {i : Fin 4} {x : UInt32} (hd : Dec m pc (.fstore_n i) 1) (hp : pc + 1 = p2) (hn : (i : Nat) < Mn m) (hl : locOk (setL lv (i : Nat) (vF x)) lv') (k : J m p2 lv' st σ Q) : J m pc lv (vF x :: st) σ Q := by
  subst hp
  intro p l e s mid args below meth c H locs ls ad cA D C
  have h13 := C.2.2.2.2.2.2.2.2.2.2.2.2
  refine lv_fstore_n C.1 C.2.1 hd rfl h13 hn rfl (fun ls2 h2 => ?_)
  obtain ⟨c1, c2, c3, c4, c5, c6, c7, c8, c9, c10, c11, c12, c13⟩ := C
  exact k p l e s mid args below meth c H locs ls2 ad cA D ⟨c1, c2, c3, c4, c5, c6, c7, c8, c9, c10, c11, c12, setL_1 rfl hl h2⟩
theorem j_fstore {i : Nat} {x : UInt32} (hd : Dec m pc (.fstore i) 2) (hp : pc + 2 = p2) (hn : i < Mn m) (hl : locOk (setL lv i (vF x)) lv') (k : J m p2 lv' st σ Q) : J m pc lv (vF x :: st) σ Q := by
  subst hp
  intro p l e s mid args below meth c H locs ls ad cA D C
  have h13 := C.2.2.2.2.2.2.2.2.2.2.2.2
  refine lv_fstore C.1 C.2.1 hd h13 hn rfl (fun ls2 h2 => ?_)
  obtain ⟨c1, c2, c3, c4, c5, c6, c7, c8, c9, c10, c11, c12, c13⟩ := C
  exact k p l e s mid args below meth c H locs ls2 ad cA D ⟨c1, c2, c3, c4, c5, c6, c7, c8, c9, c10, c11, c12, setL_1 rfl hl h2⟩
theorem j_dstore_n {i : Fin 4} {x : UInt64} (hd : Dec m pc (.dstore_n i) 1) (hp : pc + 1 = p2) (hn : (i : Nat) + 1 < Mn m) (hl : locOk (setL lv (i : Nat) (vD x)) lv') (k : J m p2 lv' st σ Q) : J m pc lv (vD x :: st) σ Q := by
  subst hp
  intro p l e s mid args below meth c H locs ls ad cA D C
  have h13 := C.2.2.2.2.2.2.2.2.2.2.2.2
  refine lv_dstore_n C.1 C.2.1 hd rfl h13 hn rfl (fun ls2 h2 => ?_)
  obtain ⟨c1, c2, c3, c4, c5, c6, c7, c8, c9, c10, c11, c12, c13⟩ := C
  exact k p l e s mid args below meth c H locs ls2 ad cA D ⟨c1, c2, c3, c4, c5, c6, c7, c8, c9, c10, c11, c12, setL_2 rfl hl h2⟩
theorem j_dstore {i : Nat} {x : UInt64} (hd : Dec m pc (.dstore i) 2) (hp : pc + 2 = p2) (hn : i + 1 < Mn m) (hl : locOk (setL lv i (vD x)) lv') (k : J m p2 lv' st σ Q) : J m pc lv (vD x :: st) σ Q := by
  subst hp
  intro p l e s mid args below meth c H locs ls ad cA D C
  have h13 := C.2.2.2.2.2.2.2.2.2.2.2.2
  refine lv_dstore C.1 C.2.1 hd h13 hn rfl (fun ls2 h2 => ?_)
  obtain ⟨c1, c2, c3, c4, c5, c6, c7, c8, c9, c10, c11, c12, c13⟩ := C
  exact k p l e s mid args below meth c H locs ls2 ad cA D ⟨c1, c2, c3, c4, c5, c6, c7, c8, c9, c10, c11, c12, setL_2 rfl hl h2⟩
theorem j_astore_n {i : Fin 4} {x : Nat} (hd : Dec m pc (.astore_n i) 1) (hp : pc + 1 = p2) (hn : (i : Nat) < Mn m) (hl : locOk (setL lv (i : Nat) (vR x)) lv') (k : J m p2 lv' st σ Q) : J m pc lv (vR x :: st) σ Q := by
  subst hp
  intro p l e s mid args below meth c H locs ls ad cA D C
  have h13 := C.2.2.2.2.2.2.2.2.2.2.2.2
  refine lv_astore_n C.1 C.2.1 hd rfl h13 hn rfl (fun ls2 h2 => ?_)
  obtain ⟨c1, c2, c3, c4, c5, c6, c7, c8, c9, c10, c11, c12, c13⟩ := C
  exact k p l e s mid args below meth c H locs ls2 ad cA D ⟨c1, c2, c3, c4, c5, c6, c7, c8, c9, c10, c11, c12, setL_1 rfl hl h2⟩
theorem j_astore {i : Nat} {x : Nat} (hd : Dec m pc (.astore i) 2) (hp : pc + 2 = p2) (hn : i < Mn m) (hl : locOk (setL lv i (vR x)) lv') (k : J m p2 lv' st σ Q) : J m pc lv (vR x :: st) σ Q := by
  subst hp
  intro p l e s mid args below meth c H locs ls ad cA D C
  have h13 := C.2.2.2.2.2.2.2.2.2.2.2.2
  refine lv_astore C.1 C.2.1 hd h13 hn rfl (fun ls2 h2 => ?_)
  obtain ⟨c1, c2, c3, c4, c5, c6, c7, c8, c9, c10, c11, c12, c13⟩ := C
  exact k p l e s mid args below meth c H locs ls2 ad cA D ⟨c1, c2, c3, c4, c5, c6, c7, c8, c9, c10, c11, c12, setL_1 rfl hl h2⟩
theorem j_iinc {i : Nat} {n x : Int} (hd : Dec m pc (.iinc i n) 3) (hp : pc + 3 = p2) (hn : i < Mn m) (hx : lgt lv i = some (vI x)) (hl : locOk (setL lv i (vI (x + n))) lv') (k : J m p2 lv' st σ Q) : J m pc lv st σ Q := by
  subst hp
  intro p l e s mid args below meth c H locs ls ad cA D C
  have h13 := C.2.2.2.2.2.2.2.2.2.2.2.2
  obtain ⟨kx, hkx⟩ := List.getElem?_of_mem (List.mem_map.mpr ⟨(i, vI x), lgt_mem hx, rfl⟩ : (i, rv ad (vI x)) ∈ lvR ad lv)
  refine lv_iinc (v := iw (x + n)) C.1 C.2.1 hd h13 hkx (by show iw x + iw n = _; exact iw_add x n) hn rfl (fun ls2 h2 => ?_)
  obtain ⟨c1, c2, c3, c4, c5, c6, c7, c8, c9, c10, c11, c12, c13⟩ := C
  exact k p l e s mid args below meth c H locs ls2 ad cA D ⟨c1, c2, c3, c4, c5, c6, c7, c8, c9, c10, c11, c12, setL_1 rfl hl h2⟩
theorem j_iadd {a b : Int} (hd : Dec m pc .iadd 1) (hp : pc + 1 = p2)  (k : J m p2 lv (vI (a + b) :: st) σ Q) : J m pc lv (vI b :: vI a :: st) σ Q := by
  subst hp
  exact J.go (fun p l e s mid args below meth c H locs ls ad cA D QQ C w => lv_iadd C.1 C.2.1 hd (by rw [iw_add a b]; exact w)) k
theorem j_isub {a b : Int} (hd : Dec m pc .isub 1) (hp : pc + 1 = p2)  (k : J m p2 lv (vI (a - b) :: st) σ Q) : J m pc lv (vI b :: vI a :: st) σ Q := by
  subst hp
  exact J.go (fun p l e s mid args below meth c H locs ls ad cA D QQ C w => lv_isub C.1 C.2.1 hd (by rw [iw_sub a b]; exact w)) k
theorem j_imul {a b : Int} (hd : Dec m pc .imul 1) (hp : pc + 1 = p2)  (k : J m p2 lv (vI (a * b) :: st) σ Q) : J m pc lv (vI b :: vI a :: st) σ Q := by
  subst hp
  exact J.go (fun p l e s mid args below meth c H locs ls ad cA D QQ C w => lv_imul C.1 C.2.1 hd (by rw [iw_mul a b]; exact w)) k
theorem j_ineg {a : Int} (hd : Dec m pc .ineg 1) (hp : pc + 1 = p2)  (k : J m p2 lv (vI (-a) :: st) σ Q) : J m pc lv (vI a :: st) σ Q := by
  subst hp
  exact J.go (fun p l e s mid args below meth c H locs ls ad cA D QQ C w => lv_ineg C.1 C.2.1 hd (by rw [iw_neg a]; exact w)) k
def jiand (a b : Int) : Int := (iw a &&& iw b).toInt
theorem j_iand {a b : Int} (hd : Dec m pc .iand 1) (hp : pc + 1 = p2)  (k : J m p2 lv (vI (jiand a b) :: st) σ Q) : J m pc lv (vI b :: vI a :: st) σ Q := by
  subst hp
  exact J.go (fun p l e s mid args below meth c H locs ls ad cA D QQ C w => lv_iand C.1 C.2.1 hd (by have h : (iw a &&& iw b) = iw (jiand a b) := (iw_of _).symm; rw [h]; exact w)) k
def jior (a b : Int) : Int := (iw a ||| iw b).toInt
theorem j_ior {a b : Int} (hd : Dec m pc .ior 1) (hp : pc + 1 = p2)  (k : J m p2 lv (vI (jior a b) :: st) σ Q) : J m pc lv (vI b :: vI a :: st) σ Q := by
  subst hp
  exact J.go (fun p l e s mid args below meth c H locs ls ad cA D QQ C w => lv_ior C.1 C.2.1 hd (by have h : (iw a ||| iw b) = iw (jior a b) := (iw_of _).symm; rw [h]; exact w)) k
def jishl (a b : Int) : Int := (iw a <<< (iw b &&& 31)).toInt
theorem j_ishl {a b : Int} (hd : Dec m pc .ishl 1) (hp : pc + 1 = p2)  (k : J m p2 lv (vI (jishl a b) :: st) σ Q) : J m pc lv (vI b :: vI a :: st) σ Q := by
  subst hp
  exact J.go (fun p l e s mid args below meth c H locs ls ad cA D QQ C w => lv_ishl C.1 C.2.1 hd (by have h : (iw a <<< (iw b &&& 31)) = iw (jishl a b) := (iw_of _).symm; rw [h]; exact w)) k
def jishr (a b : Int) : Int := (iw a >>> (iw b &&& 31)).toInt
theorem j_ishr {a b : Int} (hd : Dec m pc .ishr 1) (hp : pc + 1 = p2)  (k : J m p2 lv (vI (jishr a b) :: st) σ Q) : J m pc lv (vI b :: vI a :: st) σ Q := by
  subst hp
  exact J.go (fun p l e s mid args below meth c H locs ls ad cA D QQ C w => lv_ishr C.1 C.2.1 hd (by have h : (iw a >>> (iw b &&& 31)) = iw (jishr a b) := (iw_of _).symm; rw [h]; exact w)) k
def jidiv (a b : Int) : Int := (iw a / iw b).toInt
theorem j_idiv {a b : Int} (hd : Dec m pc .idiv 1) (hp : pc + 1 = p2) (hb : inR b) (h0 : b ≠ 0) (k : J m p2 lv (vI (jidiv a b) :: st) σ Q) : J m pc lv (vI b :: vI a :: st) σ Q := by
  subst hp
  exact J.go (fun p l e s mid args below meth c H locs ls ad cA D QQ C w => lv_idiv C.1 C.2.1 hd (fun q => h0 ((iw_eq hb ⟨by omega, by omega⟩).mp (q.trans iw_0.symm))) (by have h : (iw a / iw b) = iw (jidiv a b) := (iw_of _).symm; rw [h]; exact w)) k
def jirem (a b : Int) : Int := (iw a - iw a / iw b * iw b).toInt
theorem j_irem {a b : Int} (hd : Dec m pc .irem 1) (hp : pc + 1 = p2) (hb : inR b) (h0 : b ≠ 0) (k : J m p2 lv (vI (jirem a b) :: st) σ Q) : J m pc lv (vI b :: vI a :: st) σ Q := by
  subst hp
  exact J.go (fun p l e s mid args below meth c H locs ls ad cA D QQ C w => lv_irem C.1 C.2.1 hd (fun q => h0 ((iw_eq hb ⟨by omega, by omega⟩).mp (q.trans iw_0.symm))) (by have h : (iw a - iw a / iw b * iw b) = iw (jirem a b) := (iw_of _).symm; rw [h]; exact w)) k
theorem j_ladd {x y : Int64} (hd : Dec m pc .ladd 1) (hp : pc + 1 = p2)  (k : J m p2 lv (vL (x + y) :: st) σ Q) : J m pc lv (vL y :: vL x :: st) σ Q := by
  subst hp
  exact J.go (fun p l e s mid args below meth c H locs ls ad cA D QQ C w => lv_ladd C.1 C.2.1 hd w) k
theorem j_lsub {x y : Int64} (hd : Dec m pc .lsub 1) (hp : pc + 1 = p2)  (k : J m p2 lv (vL (x - y) :: st) σ Q) : J m pc lv (vL y :: vL x :: st) σ Q := by
  subst hp
  exact J.go (fun p l e s mid args below meth c H locs ls ad cA D QQ C w => lv_lsub C.1 C.2.1 hd w) k
theorem j_lmul {x y : Int64} (hd : Dec m pc .lmul 1) (hp : pc + 1 = p2)  (k : J m p2 lv (vL (x * y) :: st) σ Q) : J m pc lv (vL y :: vL x :: st) σ Q := by
  subst hp
  exact J.go (fun p l e s mid args below meth c H locs ls ad cA D QQ C w => lv_lmul C.1 C.2.1 hd w) k
theorem j_land {x y : Int64} (hd : Dec m pc .land 1) (hp : pc + 1 = p2)  (k : J m p2 lv (vL (x &&& y) :: st) σ Q) : J m pc lv (vL y :: vL x :: st) σ Q := by
  subst hp
  exact J.go (fun p l e s mid args below meth c H locs ls ad cA D QQ C w => lv_land C.1 C.2.1 hd w) k
theorem j_lor {x y : Int64} (hd : Dec m pc .lor 1) (hp : pc + 1 = p2)  (k : J m p2 lv (vL (x ||| y) :: st) σ Q) : J m pc lv (vL y :: vL x :: st) σ Q := by
  subst hp
  exact J.go (fun p l e s mid args below meth c H locs ls ad cA D QQ C w => lv_lor C.1 C.2.1 hd w) k
def jlshl (x : Int64) (b : Int) : Int64 := x <<< ((iw b).toInt64 &&& 63)
theorem j_lshl {x : Int64} {b : Int} (hd : Dec m pc .lshl 1) (hp : pc + 1 = p2)  (k : J m p2 lv (vL (jlshl x b) :: st) σ Q) : J m pc lv (vI b :: vL x :: st) σ Q := by
  subst hp
  exact J.go (fun p l e s mid args below meth c H locs ls ad cA D QQ C w => lv_lshl C.1 C.2.1 hd rfl w) k
def jlshr (x : Int64) (b : Int) : Int64 := x >>> ((iw b).toInt64 &&& 63)
theorem j_lshr {x : Int64} {b : Int} (hd : Dec m pc .lshr 1) (hp : pc + 1 = p2)  (k : J m p2 lv (vL (jlshr x b) :: st) σ Q) : J m pc lv (vI b :: vL x :: st) σ Q := by
  subst hp
  exact J.go (fun p l e s mid args below meth c H locs ls ad cA D QQ C w => lv_lshr C.1 C.2.1 hd rfl w) k
def jlushr (x : Int64) (b : Int) : Int64 := (x.toUInt64 >>> ((iw b).toInt64.toUInt64 &&& Int64.toUInt64 63)).toInt64
theorem j_lushr {x : Int64} {b : Int} (hd : Dec m pc .lushr 1) (hp : pc + 1 = p2)  (k : J m p2 lv (vL (jlushr x b) :: st) σ Q) : J m pc lv (vI b :: vL x :: st) σ Q := by
  subst hp
  exact J.go (fun p l e s mid args below meth c H locs ls ad cA D QQ C w => lv_lushr C.1 C.2.1 hd rfl w) k
theorem j_i2l {a : Int} (hd : Dec m pc .i2l 1) (hp : pc + 1 = p2)  (k : J m p2 lv (vL (iw a).toInt64 :: st) σ Q) : J m pc lv (vI a :: st) σ Q := by
  subst hp
  exact J.go (fun p l e s mid args below meth c H locs ls ad cA D QQ C w => lv_i2l C.1 C.2.1 hd rfl w) k
theorem j_l2i {x : Int64} (hd : Dec m pc .l2i 1) (hp : pc + 1 = p2)  (k : J m p2 lv (vI x.toInt32.toInt :: st) σ Q) : J m pc lv (vL x :: st) σ Q := by
  subst hp
  exact J.go (fun p l e s mid args below meth c H locs ls ad cA D QQ C w => lv_l2i C.1 C.2.1 hd (iw_of _).symm w) k
theorem j_dup {v : PV} (hd : Dec m pc .dup 1) (hp : pc + 1 = p2) (hc : pcat v = 1) (k : J m p2 lv (v :: v :: st) σ Q) : J m pc lv (v :: st) σ Q := by
  subst hp
  exact J.go (fun p l e s mid args below meth c H locs ls ad cA D QQ C w => lv_dup C.1 C.2.1 hd (by rw [pcat_rv]; exact hc) w) k
theorem j_pop {v : PV} (hd : Dec m pc .pop 1) (hp : pc + 1 = p2) (hc : pcat v = 1) (k : J m p2 lv (st) σ Q) : J m pc lv (v :: st) σ Q := by
  subst hp
  exact J.go (fun p l e s mid args below meth c H locs ls ad cA D QQ C w => lv_pop C.1 C.2.1 hd (by rw [pcat_rv]; exact hc) w) k
theorem j_dup2 {v u : PV} (hd : Dec m pc .dup2 1) (hp : pc + 1 = p2) (hc : pcat v = 1) (hu : pcat u = 1) (k : J m p2 lv (v :: u :: v :: u :: st) σ Q) : J m pc lv (v :: u :: st) σ Q := by
  subst hp
  exact J.go (fun p l e s mid args below meth c H locs ls ad cA D QQ C w => lv_dup2_11 C.1 C.2.1 hd (by rw [pcat_rv]; exact hc) (by rw [pcat_rv]; exact hu) w) k
theorem j_dup_x1 {v u : PV} (hd : Dec m pc .dup_x1 1) (hp : pc + 1 = p2) (hc : pcat v = 1) (hu : pcat u = 1) (k : J m p2 lv (v :: u :: v :: st) σ Q) : J m pc lv (v :: u :: st) σ Q := by
  subst hp
  exact J.go (fun p l e s mid args below meth c H locs ls ad cA D QQ C w => lv_dup_x1 C.1 C.2.1 hd (by rw [pcat_rv]; exact hc) (by rw [pcat_rv]; exact hu) w) k
theorem j_fadd {x y : UInt32} (hd : Dec m pc .fadd 1) (hp : pc + 1 = p2) (hne : vf_n32 (FP.fadd x y)) (k : J m p2 lv (vF (FP.fadd x y) :: st) σ Q) : J m pc lv (vF y :: vF x :: st) σ Q := by
  subst hp
  exact J.go (fun p l e s mid args below meth c H locs ls ad cA D QQ C w => lv_fadd C.1 C.2.1 hd hne w) k
theorem j_fsub {x y : UInt32} (hd : Dec m pc .fsub 1) (hp : pc + 1 = p2) (hne : vf_n32 (FP.fsub x y)) (k : J m p2 lv (vF (FP.fsub x y) :: st) σ Q) : J m pc lv (vF y :: vF x :: st) σ Q := by
  subst hp
  exact J.go (fun p l e s mid args below meth c H locs ls ad cA D QQ C w => lv_fsub C.1 C.2.1 hd hne w) k
theorem j_fmul {x y : UInt32} (hd : Dec m pc .fmul 1) (hp : pc + 1 = p2) (hne : vf_n32 (FP.fmul x y)) (k : J m p2 lv (vF (FP.fmul x y) :: st) σ Q) : J m pc lv (vF y :: vF x :: st) σ Q := by
  subst hp
  exact J.go (fun p l e s mid args below meth c H locs ls ad cA D QQ C w => lv_fmul C.1 C.2.1 hd hne w) k
theorem j_fdiv {x y : UInt32} (hd : Dec m pc .fdiv 1) (hp : pc + 1 = p2) (hne : vf_n32 (FP.fdiv x y)) (k : J m p2 lv (vF (FP.fdiv x y) :: st) σ Q) : J m pc lv (vF y :: vF x :: st) σ Q := by
  subst hp
  exact J.go (fun p l e s mid args below meth c H locs ls ad cA D QQ C w => lv_fdiv C.1 C.2.1 hd hne w) k
theorem j_fneg {x : UInt32} (hd : Dec m pc .fneg 1) (hp : pc + 1 = p2)  (k : J m p2 lv (vF (FP.fneg x) :: st) σ Q) : J m pc lv (vF x :: st) σ Q := by
  subst hp
  exact J.go (fun p l e s mid args below meth c H locs ls ad cA D QQ C w => lv_fneg C.1 C.2.1 hd w) k
theorem j_dadd {x y : UInt64} (hd : Dec m pc .dadd 1) (hp : pc + 1 = p2) (hne : vf_n64 (FP.dadd x y)) (k : J m p2 lv (vD (FP.dadd x y) :: st) σ Q) : J m pc lv (vD y :: vD x :: st) σ Q := by
  subst hp
  exact J.go (fun p l e s mid args below meth c H locs ls ad cA D QQ C w => lv_dadd C.1 C.2.1 hd hne w) k
theorem j_dsub {x y : UInt64} (hd : Dec m pc .dsub 1) (hp : pc + 1 = p2) (hne : vf_n64 (FP.dsub x y)) (k : J m p2 lv (vD (FP.dsub x y) :: st) σ Q) : J m pc lv (vD y :: vD x :: st) σ Q := by
  subst hp
  exact J.go (fun p l e s mid args below meth c H locs ls ad cA D QQ C w => lv_dsub C.1 C.2.1 hd hne w) k
theorem j_dmul {x y : UInt64} (hd : Dec m pc .dmul 1) (hp : pc + 1 = p2) (hne : vf_n64 (FP.dmul x y)) (k : J m p2 lv (vD (FP.dmul x y) :: st) σ Q) : J m pc lv (vD y :: vD x :: st) σ Q := by
  subst hp
  exact J.go (fun p l e s mid args below meth c H locs ls ad cA D QQ C w => lv_dmul C.1 C.2.1 hd hne w) k
theorem j_ddiv {x y : UInt64} (hd : Dec m pc .ddiv 1) (hp : pc + 1 = p2) (hne : vf_n64 (FP.ddiv x y)) (k : J m p2 lv (vD (FP.ddiv x y) :: st) σ Q) : J m pc lv (vD y :: vD x :: st) σ Q := by
  subst hp
  exact J.go (fun p l e s mid args below meth c H locs ls ad cA D QQ C w => lv_ddiv C.1 C.2.1 hd hne w) k
theorem j_dneg {x : UInt64} (hd : Dec m pc .dneg 1) (hp : pc + 1 = p2)  (k : J m p2 lv (vD (FP.dneg x) :: st) σ Q) : J m pc lv (vD x :: st) σ Q := by
  subst hp
  exact J.go (fun p l e s mid args below meth c H locs ls ad cA D QQ C w => lv_dneg C.1 C.2.1 hd w) k
theorem j_i2d {a : Int} (hd : Dec m pc .i2d 1) (hp : pc + 1 = p2)  (k : J m p2 lv (vD (FP.i2d (iw a)) :: st) σ Q) : J m pc lv (vI a :: st) σ Q := by
  subst hp
  exact J.go (fun p l e s mid args below meth c H locs ls ad cA D QQ C w => lv_i2d C.1 C.2.1 hd w) k
theorem j_l2d {x : Int64} (hd : Dec m pc .l2d 1) (hp : pc + 1 = p2)  (k : J m p2 lv (vD (FP.l2d x) :: st) σ Q) : J m pc lv (vL x :: st) σ Q := by
  subst hp
  exact J.go (fun p l e s mid args below meth c H locs ls ad cA D QQ C w => lv_l2d C.1 C.2.1 hd w) k
theorem j_d2i {x : UInt64} (hd : Dec m pc .d2i 1) (hp : pc + 1 = p2)  (k : J m p2 lv (vI (FP.d2i x).toInt :: st) σ Q) : J m pc lv (vD x :: st) σ Q := by
  subst hp
  exact J.go (fun p l e s mid args below meth c H locs ls ad cA D QQ C w => lv_d2i C.1 C.2.1 hd (by have h : FP.d2i x = iw (FP.d2i x).toInt := (iw_of _).symm; rw [h]; exact w)) k
theorem j_d2l {x : UInt64} (hd : Dec m pc .d2l 1) (hp : pc + 1 = p2)  (k : J m p2 lv (vL (FP.d2l x) :: st) σ Q) : J m pc lv (vD x :: st) σ Q := by
  subst hp
  exact J.go (fun p l e s mid args below meth c H locs ls ad cA D QQ C w => lv_d2l C.1 C.2.1 hd w) k
theorem j_f2d {x : UInt32} (hd : Dec m pc .f2d 1) (hp : pc + 1 = p2) (hne : vf_n64 (FP.f2d x)) (k : J m p2 lv (vD (FP.f2d x) :: st) σ Q) : J m pc lv (vF x :: st) σ Q := by
  subst hp
  exact J.go (fun p l e s mid args below meth c H locs ls ad cA D QQ C w => lv_f2d C.1 C.2.1 hd hne w) k
theorem j_d2f {x : UInt64} (hd : Dec m pc .d2f 1) (hp : pc + 1 = p2) (hne : vf_n32 (FP.d2f x)) (k : J m p2 lv (vF (FP.d2f x) :: st) σ Q) : J m pc lv (vD x :: st) σ Q := by
  subst hp
  exact J.go (fun p l e s mid args below meth c H locs ls ad cA D QQ C w => lv_d2f C.1 C.2.1 hd hne w) k
theorem j_goto {off : Int} (hd : Dec m pc (.goto off) 3) (ht : (pc : Int) + off = (p2 : Int)) (k : J m p2 lv st σ Q) : J m pc lv st σ Q :=
  J.go (fun p l e s mid args below meth c H locs ls ad cA D QQ C w => lv_goto C.1 C.2.1 hd ht w) k
theorem j_icmp_eq {a b : Int} {off : Int} {tg : Nat} (hd : Dec m pc (.if_icmp .eq off) 3) (hp : pc + 3 = p2) (ht : (pc : Int) + off = (tg : Int)) (ha : inR a) (hb : inR b) (kt : a = b → J m tg lv st σ Q) (kf : a ≠ b → J m p2 lv st σ Q) : J m pc lv (vI b :: vI a :: st) σ Q := by
  subst hp
  exact fun p l e s mid args below meth c H locs ls ad cA D C => lv_icmp_eq C.1 C.2.1 hd ht (fun q => kt ((iw_eq ha hb).mp q) p l e s mid args below meth c H locs ls ad cA D C) (fun q => kf (fun h => q ((iw_eq ha hb).mpr h)) p l e s mid args below meth c H locs ls ad cA D C)
theorem j_icmp_ne {a b : Int} {off : Int} {tg : Nat} (hd : Dec m pc (.if_icmp .ne off) 3) (hp : pc + 3 = p2) (ht : (pc : Int) + off = (tg : Int)) (ha : inR a) (hb : inR b) (kt : a ≠ b → J m tg lv st σ Q) (kf : a = b → J m p2 lv st σ Q) : J m pc lv (vI b :: vI a :: st) σ Q := by
  subst hp
  exact fun p l e s mid args below meth c H locs ls ad cA D C => lv_icmp_ne C.1 C.2.1 hd ht (fun q => kt (fun h => q ((iw_eq ha hb).mpr h)) p l e s mid args below meth c H locs ls ad cA D C) (fun q => kf ((iw_eq ha hb).mp q) p l e s mid args below meth c H locs ls ad cA D C)
theorem j_icmp_lt {a b : Int} {off : Int} {tg : Nat} (hd : Dec m pc (.if_icmp .lt off) 3) (hp : pc + 3 = p2) (ht : (pc : Int) + off = (tg : Int)) (ha : inR a) (hb : inR b) (kt : a < b → J m tg lv st σ Q) (kf : b ≤ a → J m p2 lv st σ Q) : J m pc lv (vI b :: vI a :: st) σ Q := by
  subst hp
  exact fun p l e s mid args below meth c H locs ls ad cA D C => lv_icmp_lt C.1 C.2.1 hd ht (fun q => kt ((iw_lt ha hb).mp q) p l e s mid args below meth c H locs ls ad cA D C) (fun q => kf (Int.not_lt.mp fun h => q ((iw_lt ha hb).mpr h)) p l e s mid args below meth c H locs ls ad cA D C)
theorem j_icmp_ge {a b : Int} {off : Int} {tg : Nat} (hd : Dec m pc (.if_icmp .ge off) 3) (hp : pc + 3 = p2) (ht : (pc : Int) + off = (tg : Int)) (ha : inR a) (hb : inR b) (kt : b ≤ a → J m tg lv st σ Q) (kf : a < b → J m p2 lv st σ Q) : J m pc lv (vI b :: vI a :: st) σ Q := by
  subst hp
  exact fun p l e s mid args below meth c H locs ls ad cA D C => lv_icmp_ge C.1 C.2.1 hd ht (fun q => kt ((iw_le hb ha).mp q) p l e s mid args below meth c H locs ls ad cA D C) (fun q => kf (Int.not_le.mp fun h => q ((iw_le hb ha).mpr h)) p l e s mid args below meth c H locs ls ad cA D C)
theorem j_icmp_gt {a b : Int} {off : Int} {tg : Nat} (hd : Dec m pc (.if_icmp .gt off) 3) (hp : pc + 3 = p2) (ht : (pc : Int) + off = (tg : Int)) (ha : inR a) (hb : inR b) (kt : b < a → J m tg lv st σ Q) (kf : a ≤ b → J m p2 lv st σ Q) : J m pc lv (vI b :: vI a :: st) σ Q := by
  subst hp
  exact fun p l e s mid args below meth c H locs ls ad cA D C => lv_icmp_gt C.1 C.2.1 hd ht (fun q => kt ((iw_lt hb ha).mp q) p l e s mid args below meth c H locs ls ad cA D C) (fun q => kf (Int.not_lt.mp fun h => q ((iw_lt hb ha).mpr h)) p l e s mid args below meth c H locs ls ad cA D C)
theorem j_icmp_le {a b : Int} {off : Int} {tg : Nat} (hd : Dec m pc (.if_icmp .le off) 3) (hp : pc + 3 = p2) (ht : (pc : Int) + off = (tg : Int)) (ha : inR a) (hb : inR b) (kt : a ≤ b → J m tg lv st σ Q) (kf : b < a → J m p2 lv st σ Q) : J m pc lv (vI b :: vI a :: st) σ Q := by
  subst hp
  exact fun p l e s mid args below meth c H locs ls ad cA D C => lv_icmp_le C.1 C.2.1 hd ht (fun q => kt ((iw_le ha hb).mp q) p l e s mid args below meth c H locs ls ad cA D C) (fun q => kf (Int.not_le.mp fun h => q ((iw_le ha hb).mpr h)) p l e s mid args below meth c H locs ls ad cA D C)
theorem j_if_eq {a : Int} {off : Int} {tg : Nat} (hd : Dec m pc (.ifCond .eq off) 3) (hp : pc + 3 = p2) (ht : (pc : Int) + off = (tg : Int)) (ha : inR a) (kt : a = 0 → J m tg lv st σ Q) (kf : a ≠ 0 → J m p2 lv st σ Q) : J m pc lv (vI a :: st) σ Q := by
  subst hp
  have h0 : inR 0 := ⟨by omega, by omega⟩
  exact fun p l e s mid args below meth c H locs ls ad cA D C => lv_if_eq C.1 C.2.1 hd ht (fun q => kt ((iw_eq ha h0).mp q) p l e s mid args below meth c H locs ls ad cA D C) (fun q => kf (fun h => q ((iw_eq ha h0).mpr h)) p l e s mid args below meth c H locs ls ad cA D C)
theorem j_if_ne {a : Int} {off : Int} {tg : Nat} (hd : Dec m pc (.ifCond .ne off) 3) (hp : pc + 3 = p2) (ht : (pc : Int) + off = (tg : Int)) (ha : inR a) (kt : a ≠ 0 → J m tg lv st σ Q) (kf : a = 0 → J m p2 lv st σ Q) : J m pc lv (vI a :: st) σ Q := by
  subst hp
  have h0 : inR 0 := ⟨by omega, by omega⟩
  exact fun p l e s mid args below meth c H locs ls ad cA D C => lv_if_ne C.1 C.2.1 hd ht (fun q => kt (fun h => q ((iw_eq ha h0).mpr h)) p l e s mid args below meth c H locs ls ad cA D C) (fun q => kf ((iw_eq ha h0).mp q) p l e s mid args below meth c H locs ls ad cA D C)
theorem j_if_lt {a : Int} {off : Int} {tg : Nat} (hd : Dec m pc (.ifCond .lt off) 3) (hp : pc + 3 = p2) (ht : (pc : Int) + off = (tg : Int)) (ha : inR a) (kt : a < 0 → J m tg lv st σ Q) (kf : 0 ≤ a → J m p2 lv st σ Q) : J m pc lv (vI a :: st) σ Q := by
  subst hp
  have h0 : inR 0 := ⟨by omega, by omega⟩
  exact fun p l e s mid args below meth c H locs ls ad cA D C => lv_if_lt C.1 C.2.1 hd ht (fun q => kt ((iw_lt ha h0).mp q) p l e s mid args below meth c H locs ls ad cA D C) (fun q => kf (Int.not_lt.mp fun h => q ((iw_lt ha h0).mpr h)) p l e s mid args below meth c H locs ls ad cA D C)
theorem j_if_ge {a : Int} {off : Int} {tg : Nat} (hd : Dec m pc (.ifCond .ge off) 3) (hp : pc + 3 = p2) (ht : (pc : Int) + off = (tg : Int)) (ha : inR a) (kt : 0 ≤ a → J m tg lv st σ Q) (kf : a < 0 → J m p2 lv st σ Q) : J m pc lv (vI a :: st) σ Q := by
  subst hp
  have h0 : inR 0 := ⟨by omega, by omega⟩
  exact fun p l e s mid args below meth c H locs ls ad cA D C => lv_if_ge C.1 C.2.1 hd ht (fun q => kt ((iw_le h0 ha).mp q) p l e s mid args below meth c H locs ls ad cA D C) (fun q => kf (Int.not_le.mp fun h => q ((iw_le h0 ha).mpr h)) p l e s mid args below meth c H locs ls ad cA D C)
theorem j_if_gt {a : Int} {off : Int} {tg : Nat} (hd : Dec m pc (.ifCond .gt off) 3) (hp : pc + 3 = p2) (ht : (pc : Int) + off = (tg : Int)) (ha : inR a) (kt : 0 < a → J m tg lv st σ Q) (kf : a ≤ 0 → J m p2 lv st σ Q) : J m pc lv (vI a :: st) σ Q := by
  subst hp
  have h0 : inR 0 := ⟨by omega, by omega⟩
  exact fun p l e s mid args below meth c H locs ls ad cA D C => lv_if_gt C.1 C.2.1 hd ht (fun q => kt ((iw_lt h0 ha).mp q) p l e s mid args below meth c H locs ls ad cA D C) (fun q => kf (Int.not_lt.mp fun h => q ((iw_lt h0 ha).mpr h)) p l e s mid args below meth c H locs ls ad cA D C)
theorem j_if_le {a : Int} {off : Int} {tg : Nat} (hd : Dec m pc (.ifCond .le off) 3) (hp : pc + 3 = p2) (ht : (pc : Int) + off = (tg : Int)) (ha : inR a) (kt : a ≤ 0 → J m tg lv st σ Q) (kf : 0 < a → J m p2 lv st σ Q) : J m pc lv (vI a :: st) σ Q := by
  subst hp
  have h0 : inR 0 := ⟨by omega, by omega⟩
  exact fun p l e s mid args below meth c H locs ls ad cA D C => lv_if_le C.1 C.2.1 hd ht (fun q => kt ((iw_le ha h0).mp q) p l e s mid args below meth c H locs ls ad cA D C) (fun q => kf (Int.not_le.mp fun h => q ((iw_le ha h0).mpr h)) p l e s mid args below meth c H locs ls ad cA D C)
def bI (b : Bool) : Int := match b with
  | true => 1
  | false => 0
theorem bI_in (b : Bool) : inR (bI b) := by cases b <;> decide
theorem bI_0 {b : Bool} (h : bI b = 0) : b = false := by cases b with
  | false => rfl
  | true => cases h
theorem bI_1 {b : Bool} (h : bI b ≠ 0) : b = true := by cases b with
  | true => rfl
  | false => exact absurd rfl h
theorem bI_or (b : Bool) : bI b = 0 ∨ bI b = 1 := by cases b <;> decide
theorem j_ifb_eq {b : Bool} {off : Int} {tg : Nat} (hd : Dec m pc (.ifCond .eq off) 3) (hp : pc + 3 = p2) (ht : (pc : Int) + off = (tg : Int)) (kt : b = false → J m tg lv st σ Q) (kf : b = true → J m p2 lv st σ Q) : J m pc lv (vI (bI b) :: st) σ Q :=
  j_if_eq hd hp ht (bI_in b) (fun h => kt (bI_0 h)) (fun h => kf (bI_1 h))
theorem j_ifb_ne {b : Bool} {off : Int} {tg : Nat} (hd : Dec m pc (.ifCond .ne off) 3) (hp : pc + 3 = p2) (ht : (pc : Int) + off = (tg : Int)) (kt : b = true → J m tg lv st σ Q) (kf : b = false → J m p2 lv st σ Q) : J m pc lv (vI (bI b) :: st) σ Q :=
  j_if_ne hd hp ht (bI_in b) (fun h => kt (bI_1 h)) (fun h => kf (bI_0 h))

theorem cmpV (o : Option Ordering) : Op.cmpValue o .l = FP.cmpInt (-1) o ∧ Op.cmpValue o .g = FP.cmpInt 1 o := by
  rcases o with _ | x
  · exact ⟨rfl, rfl⟩
  · cases x <;> exact ⟨rfl, rfl⟩
theorem cv_l_lt (o : Option Ordering) : Op.cmpValue o .l < 0 ↔ o = some .lt ∨ o = none := by rcases o with _ | _ | _ | _ <;> decide
theorem cv_l_le (o : Option Ordering) : Op.cmpValue o .l ≤ 0 ↔ ¬ o = some .gt := by rcases o with _ | _ | _ | _ <;> decide
theorem cv_l_eq (o : Option Ordering) : Op.cmpValue o .l = 0 ↔ o = some .eq := by rcases o with _ | _ | _ | _ <;> decide
theorem cv_g_ge (o : Option Ordering) : 0 ≤ Op.cmpValue o .g ↔ ¬ o = some .lt := by rcases o with _ | _ | _ | _ <;> decide
theorem cv_g_gt (o : Option Ordering) : 0 < Op.cmpValue o .g ↔ ¬ (o = some .lt ∨ o = some .eq) := by rcases o with _ | _ | _ | _ <;> decide
theorem cv_l_lt2 (o : Option Ordering) : Op.cmpValue o .l < 0 ↔ ¬ (o = some .gt ∨ o = some .eq) := by rcases o with _ | _ | _ | _ <;> decide

theorem j_fcmp_l_le {x y : UInt32} {off : Int} {p1 tg : Nat} (hd : Dec m pc (.fcmp .l) 1) (h1 : pc + 1 = p1) (hd2 : Dec m p1 (.ifCond .le off) 3) (hp : p1 + 3 = p2) (ht : (p1 : Int) + off = (tg : Int)) (kt : ¬ FP.fcmp x y = some .gt → J m tg lv st σ Q) (kf : FP.fcmp x y = some .gt → J m p2 lv st σ Q) : J m pc lv (vF y :: vF x :: st) σ Q := by
  subst h1
  subst hp
  exact fun p l e s mid args below meth c H locs ls ad cA D C => lv_fcmp C.1 C.2.1 hd (lv_if_le C.1 C.2.1 hd2 ht (fun q => kt ((cv_l_le _).mp q) p l e s mid args below meth c H locs ls ad cA D C) (fun q => kf (Classical.byContradiction fun h => q ((cv_l_le _).mpr h)) p l e s mid args below meth c H locs ls ad cA D C))
theorem j_fcmp_l_lt {x y : UInt32} {off : Int} {p1 tg : Nat} (hd : Dec m pc (.fcmp .l) 1) (h1 : pc + 1 = p1) (hd2 : Dec m p1 (.ifCond .lt off) 3) (hp : p1 + 3 = p2) (ht : (p1 : Int) + off = (tg : Int)) (kt : ¬ (FP.fcmp x y = some .gt ∨ FP.fcmp x y = some .eq) → J m tg lv st σ Q) (kf : FP.fcmp x y = some .gt ∨ FP.fcmp x y = some .eq → J m p2 lv st σ Q) : J m pc lv (vF y :: vF x :: st) σ Q := by
  subst h1
  subst hp
  exact fun p l e s mid args below meth c H locs ls ad cA D C => lv_fcmp C.1 C.2.1 hd (lv_if_lt C.1 C.2.1 hd2 ht (fun q => kt ((cv_l_lt2 _).mp q) p l e s mid args below meth c H locs ls ad cA D C) (fun q => kf (Classical.byContradiction fun h => q ((cv_l_lt2 _).mpr h)) p l e s mid args below meth c H locs ls ad cA D C))
theorem j_fcmp_l_ne {x y : UInt32} {off : Int} {p1 tg : Nat} (hd : Dec m pc (.fcmp .l) 1) (h1 : pc + 1 = p1) (hd2 : Dec m p1 (.ifCond .ne off) 3) (hp : p1 + 3 = p2) (ht : (p1 : Int) + off = (tg : Int)) (kt : ¬ FP.fcmp x y = some .eq → J m tg lv st σ Q) (kf : FP.fcmp x y = some .eq → J m p2 lv st σ Q) : J m pc lv (vF y :: vF x :: st) σ Q := by
  subst h1
  subst hp
  exact fun p l e s mid args below meth c H locs ls ad cA D C => lv_fcmp C.1 C.2.1 hd (lv_if_ne C.1 C.2.1 hd2 ht (fun q => kt (fun h => q ((cv_l_eq _).mpr h)) p l e s mid args below meth c H locs ls ad cA D C) (fun q => kf ((cv_l_eq _).mp q) p l e s mid args below meth c H locs ls ad cA D C))
theorem j_fcmp_l_eq {x y : UInt32} {off : Int} {p1 tg : Nat} (hd : Dec m pc (.fcmp .l) 1) (h1 : pc + 1 = p1) (hd2 : Dec m p1 (.ifCond .eq off) 3) (hp : p1 + 3 = p2) (ht : (p1 : Int) + off = (tg : Int)) (kt : FP.fcmp x y = some .eq → J m tg lv st σ Q) (kf : ¬ FP.fcmp x y = some .eq → J m p2 lv st σ Q) : J m pc lv (vF y :: vF x :: st) σ Q := by
  subst h1
  subst hp
  exact fun p l e s mid args below meth c H locs ls ad cA D C => lv_fcmp C.1 C.2.1 hd (lv_if_eq C.1 C.2.1 hd2 ht (fun q => kt ((cv_l_eq _).mp q) p l e s mid args below meth c H locs ls ad cA D C) (fun q => kf (fun h => q ((cv_l_eq _).mpr h)) p l e s mid args below meth c H locs ls ad cA D C))
theorem j_fcmp_g_ge {x y : UInt32} {off : Int} {p1 tg : Nat} (hd : Dec m pc (.fcmp .g) 1) (h1 : pc + 1 = p1) (hd2 : Dec m p1 (.ifCond .ge off) 3) (hp : p1 + 3 = p2) (ht : (p1 : Int) + off = (tg : Int)) (kt : ¬ FP.fcmp x y = some .lt → J m tg lv st σ Q) (kf : FP.fcmp x y = some .lt → J m p2 lv st σ Q) : J m pc lv (vF y :: vF x :: st) σ Q := by
  subst h1
  subst hp
  exact fun p l e s mid args below meth c H locs ls ad cA D C => lv_fcmp C.1 C.2.1 hd (lv_if_ge C.1 C.2.1 hd2 ht (fun q => kt ((cv_g_ge _).mp q) p l e s mid args below meth c H locs ls ad cA D C) (fun q => kf (Classical.byContradiction fun h => q ((cv_g_ge _).mpr h)) p l e s mid args below meth c H locs ls ad cA D C))
theorem j_fcmp_g_gt {x y : UInt32} {off : Int} {p1 tg : Nat} (hd : Dec m pc (.fcmp .g) 1) (h1 : pc + 1 = p1) (hd2 : Dec m p1 (.ifCond .gt off) 3) (hp : p1 + 3 = p2) (ht : (p1 : Int) + off = (tg : Int)) (kt : ¬ (FP.fcmp x y = some .lt ∨ FP.fcmp x y = some .eq) → J m tg lv st σ Q) (kf : FP.fcmp x y = some .lt ∨ FP.fcmp x y = some .eq → J m p2 lv st σ Q) : J m pc lv (vF y :: vF x :: st) σ Q := by
  subst h1
  subst hp
  exact fun p l e s mid args below meth c H locs ls ad cA D C => lv_fcmp C.1 C.2.1 hd (lv_if_gt C.1 C.2.1 hd2 ht (fun q => kt ((cv_g_gt _).mp q) p l e s mid args below meth c H locs ls ad cA D C) (fun q => kf (Classical.byContradiction fun h => q ((cv_g_gt _).mpr h)) p l e s mid args below meth c H locs ls ad cA D C))
theorem j_dcmp_l_le {x y : UInt64} {off : Int} {p1 tg : Nat} (hd : Dec m pc (.dcmp .l) 1) (h1 : pc + 1 = p1) (hd2 : Dec m p1 (.ifCond .le off) 3) (hp : p1 + 3 = p2) (ht : (p1 : Int) + off = (tg : Int)) (kt : ¬ FP.dcmp x y = some .gt → J m tg lv st σ Q) (kf : FP.dcmp x y = some .gt → J m p2 lv st σ Q) : J m pc lv (vD y :: vD x :: st) σ Q := by
  subst h1
  subst hp
  exact fun p l e s mid args below meth c H locs ls ad cA D C => lv_dcmp C.1 C.2.1 hd (lv_if_le C.1 C.2.1 hd2 ht (fun q => kt ((cv_l_le _).mp q) p l e s mid args below meth c H locs ls ad cA D C) (fun q => kf (Classical.byContradiction fun h => q ((cv_l_le _).mpr h)) p l e s mid args below meth c H locs ls ad cA D C))
theorem j_dcmp_l_lt {x y : UInt64} {off : Int} {p1 tg : Nat} (hd : Dec m pc (.dcmp .l) 1) (h1 : pc + 1 = p1) (hd2 : Dec m p1 (.ifCond .lt off) 3) (hp : p1 + 3 = p2) (ht : (p1 : Int) + off = (tg : Int)) (kt : ¬ (FP.dcmp x y = some .gt ∨ FP.dcmp x y = some .eq) → J m tg lv st σ Q) (kf : FP.dcmp x y = some .gt ∨ FP.dcmp x y = some .eq → J m p2 lv st σ Q) : J m pc lv (vD y :: vD x :: st) σ Q := by
  subst h1
  subst hp
  exact fun p l e s mid args below meth c H locs ls ad cA D C => lv_dcmp C.1 C.2.1 hd (lv_if_lt C.1 C.2.1 hd2 ht (fun q => kt ((cv_l_lt2 _).mp q) p l e s mid args below meth c H locs ls ad cA D C) (fun q => kf (Classical.byContradiction fun h => q ((cv_l_lt2 _).mpr h)) p l e s mid args below meth c H locs ls ad cA D C))
theorem j_dcmp_l_ne {x y : UInt64} {off : Int} {p1 tg : Nat} (hd : Dec m pc (.dcmp .l) 1) (h1 : pc + 1 = p1) (hd2 : Dec m p1 (.ifCond .ne off) 3) (hp : p1 + 3 = p2) (ht : (p1 : Int) + off = (tg : Int)) (kt : ¬ FP.dcmp x y = some .eq → J m tg lv st σ Q) (kf : FP.dcmp x y = some .eq → J m p2 lv st σ Q) : J m pc lv (vD y :: vD x :: st) σ Q := by
  subst h1
  subst hp
  exact fun p l e s mid args below meth c H locs ls ad cA D C => lv_dcmp C.1 C.2.1 hd (lv_if_ne C.1 C.2.1 hd2 ht (fun q => kt (fun h => q ((cv_l_eq _).mpr h)) p l e s mid args below meth c H locs ls ad cA D C) (fun q => kf ((cv_l_eq _).mp q) p l e s mid args below meth c H locs ls ad cA D C))
theorem j_dcmp_l_eq {x y : UInt64} {off : Int} {p1 tg : Nat} (hd : Dec m pc (.dcmp .l) 1) (h1 : pc + 1 = p1) (hd2 : Dec m p1 (.ifCond .eq off) 3) (hp : p1 + 3 = p2) (ht : (p1 : Int) + off = (tg : Int)) (kt : FP.dcmp x y = some .eq → J m tg lv st σ Q) (kf : ¬ FP.dcmp x y = some .eq → J m p2 lv st σ Q) : J m pc lv (vD y :: vD x :: st) σ Q := by
  subst h1
  subst hp
  exact fun p l e s mid args below meth c H locs ls ad cA D C => lv_dcmp C.1 C.2.1 hd (lv_if_eq C.1 C.2.1 hd2 ht (fun q => kt ((cv_l_eq _).mp q) p l e s mid args below meth c H locs ls ad cA D C) (fun q => kf (fun h => q ((cv_l_eq _).mpr h)) p l e s mid args below meth c H locs ls ad cA D C))
theorem j_dcmp_g_ge {x y : UInt64} {off : Int} {p1 tg : Nat} (hd : Dec m pc (.dcmp .g) 1) (h1 : pc + 1 = p1) (hd2 : Dec m p1 (.ifCond .ge off) 3) (hp : p1 + 3 = p2) (ht : (p1 : Int) + off = (tg : Int)) (kt : ¬ FP.dcmp x y = some .lt → J m tg lv st σ Q) (kf : FP.dcmp x y = some .lt → J m p2 lv st σ Q) : J m pc lv (vD y :: vD x :: st) σ Q := by
  subst h1
  subst hp
  exact fun p l e s mid args below meth c H locs ls ad cA D C => lv_dcmp C.1 C.2.1 hd (lv_if_ge C.1 C.2.1 hd2 ht (fun q => kt ((cv_g_ge _).mp q) p l e s mid args below meth c H locs ls ad cA D C) (fun q => kf (Classical.byContradiction fun h => q ((cv_g_ge _).mpr h)) p l e s mid args below meth c H locs ls ad cA D C))
theorem j_dcmp_g_gt {x y : UInt64} {off : Int} {p1 tg : Nat} (hd : Dec m pc (.dcmp .g) 1) (h1 : pc + 1 = p1) (hd2 : Dec m p1 (.ifCond .gt off) 3) (hp : p1 + 3 = p2) (ht : (p1 : Int) + off = (tg : Int)) (kt : ¬ (FP.dcmp x y = some .lt ∨ FP.dcmp x y = some .eq) → J m tg lv st σ Q) (kf : FP.dcmp x y = some .lt ∨ FP.dcmp x y = some .eq → J m p2 lv st σ Q) : J m pc lv (vD y :: vD x :: st) σ Q := by
  subst h1
  subst hp
  exact fun p l e s mid args below meth c H locs ls ad cA D C => lv_dcmp C.1 C.2.1 hd (lv_if_gt C.1 C.2.1 hd2 ht (fun q => kt ((cv_g_gt _).mp q) p l e s mid args below meth c H locs ls ad cA D C) (fun q => kf (Classical.byContradiction fun h => q ((cv_g_gt _).mpr h)) p l e s mid args below meth c H locs ls ad cA D C))
theorem j_lcmp_eq {x y : Int64} {off : Int} {p1 tg : Nat} (hd : Dec m pc .lcmp 1) (h1 : pc + 1 = p1) (hd2 : Dec m p1 (.ifCond .eq off) 3) (hp : p1 + 3 = p2) (ht : (p1 : Int) + off = (tg : Int)) (kt : x = y → J m tg lv st σ Q) (kf : ¬ x = y → J m p2 lv st σ Q) : J m pc lv (vL y :: vL x :: st) σ Q := by
  subst h1
  subst hp
  exact fun p l e s mid args below meth c H locs ls ad cA D C => W.lcmp C.1 C.2.1 hd (lv_if_eq C.1 C.2.1 hd2 ht (fun q => kt ((lg_cmp_eq _ _).mp q) p l e s mid args below meth c H locs ls ad cA D C) (fun q => kf (fun h => q ((lg_cmp_eq _ _).mpr h)) p l e s mid args below meth c H locs ls ad cA D C))
theorem j_lcmp_ne {x y : Int64} {off : Int} {p1 tg : Nat} (hd : Dec m pc .lcmp 1) (h1 : pc + 1 = p1) (hd2 : Dec m p1 (.ifCond .ne off) 3) (hp : p1 + 3 = p2) (ht : (p1 : Int) + off = (tg : Int)) (kt : ¬ x = y → J m tg lv st σ Q) (kf : x = y → J m p2 lv st σ Q) : J m pc lv (vL y :: vL x :: st) σ Q := by
  subst h1
  subst hp
  exact fun p l e s mid args below meth c H locs ls ad cA D C => W.lcmp C.1 C.2.1 hd (lv_if_ne C.1 C.2.1 hd2 ht (fun q => kt (fun h => q ((lg_cmp_eq _ _).mpr h)) p l e s mid args below meth c H locs ls ad cA D C) (fun q => kf ((lg_cmp_eq _ _).mp q) p l e s mid args below meth c H locs ls ad cA D C))
theorem j_lcmp_lt {x y : Int64} {off : Int} {p1 tg : Nat} (hd : Dec m pc .lcmp 1) (h1 : pc + 1 = p1) (hd2 : Dec m p1 (.ifCond .lt off) 3) (hp : p1 + 3 = p2) (ht : (p1 : Int) + off = (tg : Int)) (kt : x < y → J m tg lv st σ Q) (kf : ¬ x < y → J m p2 lv st σ Q) : J m pc lv (vL y :: vL x :: st) σ Q := by
  subst h1
  subst hp
  exact fun p l e s mid args below meth c H locs ls ad cA D C => W.lcmp C.1 C.2.1 hd (lv_if_lt C.1 C.2.1 hd2 ht (fun q => kt ((lg_cmp_lt _ _).mp q) p l e s mid args below meth c H locs ls ad cA D C) (fun q => kf (fun h => q ((lg_cmp_lt _ _).mpr h)) p l e s mid args below meth c H locs ls ad cA D C))
theorem j_lcmp_ge {x y : Int64} {off : Int} {p1 tg : Nat} (hd : Dec m pc .lcmp 1) (h1 : pc + 1 = p1) (hd2 : Dec m p1 (.ifCond .ge off) 3) (hp : p1 + 3 = p2) (ht : (p1 : Int) + off = (tg : Int)) (kt : ¬ x < y → J m tg lv st σ Q) (kf : x < y → J m p2 lv st σ Q) : J m pc lv (vL y :: vL x :: st) σ Q := by
  subst h1
  subst hp
  exact fun p l e s mid args below meth c H locs ls ad cA D C => W.lcmp C.1 C.2.1 hd (lv_if_ge C.1 C.2.1 hd2 ht (fun q => kt (fun h => Int32.not_lt.mpr q ((lg_cmp_lt _ _).mpr h)) p l e s mid args below meth c H locs ls ad cA D C) (fun q => kf ((lg_cmp_lt _ _).mp (Int32.not_le.mp q)) p l e s mid args below meth c H locs ls ad cA D C))
theorem j_lcmp_gt {x y : Int64} {off : Int} {p1 tg : Nat} (hd : Dec m pc .lcmp 1) (h1 : pc + 1 = p1) (hd2 : Dec m p1 (.ifCond .gt off) 3) (hp : p1 + 3 = p2) (ht : (p1 : Int) + off = (tg : Int)) (kt : ¬ x ≤ y → J m tg lv st σ Q) (kf : x ≤ y → J m p2 lv st σ Q) : J m pc lv (vL y :: vL x :: st) σ Q := by
  subst h1
  subst hp
  exact fun p l e s mid args below meth c H locs ls ad cA D C => W.lcmp C.1 C.2.1 hd (lv_if_gt C.1 C.2.1 hd2 ht (fun q => kt (fun h => Int32.not_le.mpr q ((lg_cmp_le _ _).mpr h)) p l e s mid args below meth c H locs ls ad cA D C) (fun q => kf ((lg_cmp_le _ _).mp (Int32.not_lt.mp q)) p l e s mid args below meth c H locs ls ad cA D C))
theorem j_lcmp_le {x y : Int64} {off : Int} {p1 tg : Nat} (hd : Dec m pc .lcmp 1) (h1 : pc + 1 = p1) (hd2 : Dec m p1 (.ifCond .le off) 3) (hp : p1 + 3 = p2) (ht : (p1 : Int) + off = (tg : Int)) (kt : x ≤ y → J m tg lv st σ Q) (kf : ¬ x ≤ y → J m p2 lv st σ Q) : J m pc lv (vL y :: vL x :: st) σ Q := by
  subst h1
  subst hp
  exact fun p l e s mid args below meth c H locs ls ad cA D C => W.lcmp C.1 C.2.1 hd (lv_if_le C.1 C.2.1 hd2 ht (fun q => kt ((lg_cmp_le _ _).mp q) p l e s mid args below meth c H locs ls ad cA D C) (fun q => kf (fun h => q ((lg_cmp_le _ _).mpr h)) p l e s mid args below meth c H locs ls ad cA D C))
theorem j_tsw_in {a : Int} {dflt lo hi off : Int} {offs : Array Int} {len tg : Nat} (hd : Dec m pc (.tableswitch dflt lo hi offs) len) (ha : inR a) (h1 : lo ≤ a) (h2 : a ≤ hi) (ho : offs[(a - lo).toNat]? = some off) (ht : (pc : Int) + off = (tg : Int)) (k : J m tg lv st σ Q) : J m pc lv (vI a :: st) σ Q :=
  J.go (fun p l e s mid args below meth c H locs ls ad cA D QQ C w => lv_tableIn C.1 C.2.1 hd (by rw [iw_toInt ha]; omega) (by rw [iw_toInt ha]; omega) (by rw [iw_toInt ha]; exact ho) ht w) k
theorem j_tsw_out {a : Int} {dflt lo hi : Int} {offs : Array Int} {len tg : Nat} (hd : Dec m pc (.tableswitch dflt lo hi offs) len) (ha : inR a) (h1 : a < lo ∨ hi < a) (ht : (pc : Int) + dflt = (tg : Int)) (k : J m tg lv st σ Q) : J m pc lv (vI a :: st) σ Q :=
  J.go (fun p l e s mid args below meth c H locs ls ad cA D QQ C w => lv_tableOut C.1 C.2.1 hd (by rw [iw_toInt ha]; exact h1) ht w) k
theorem j_lsw {a : Int} {dflt off : Int} {ps : Array (Int × Int)} {len tg : Nat} (hd : Dec m pc (.lookupswitch dflt ps) len) (ha : inR a) (hs : (ps.toList.zip (ps.toList.drop 1)).all (fun (a, next) => a.1 < next.1) = true) (ho : Op.lookupswitch.offset ps.toList dflt a = off) (ht : (pc : Int) + off = (tg : Int)) (k : J m tg lv st σ Q) : J m pc lv (vI a :: st) σ Q :=
  J.go (fun p l e s mid args below meth c H locs ls ad cA D QQ C w => lv_lookup C.1 C.2.1 hd hs (by rw [iw_toInt ha]; exact ho) ht w) k

theorem j_ireturn {x : Int} (hd : Dec m pc .ireturn 1) (hr : Mr m = some .int)  (h : Q (some (vI x)) σ) : J m pc lv [vI x] σ Q := by
  intro p l e s mid args below meth c H locs ls ad cA D C
  obtain ⟨c1, c2, c3, c4, c5, c6, c7, c8, c9, c10, c11, c12, c13⟩ := C
  exact W.iret c1 c2 (c4.trans hr) (fun t ht hW => ⟨⟨(some (vI x)), σ, rfl, h, by rw [ht]; exact c11⟩, c12.F ht⟩) c12.2.2 hd c5
theorem j_zreturn {x : Int} (hd : Dec m pc .ireturn 1) (hr : Mr m = some .boolean) (hx : x = 0 ∨ x = 1) (h : Q (some (vI x)) σ) : J m pc lv [vI x] σ Q := by
  intro p l e s mid args below meth c H locs ls ad cA D C
  obtain ⟨c1, c2, c3, c4, c5, c6, c7, c8, c9, c10, c11, c12, c13⟩ := C
  exact W.zret c1 c2 (c4.trans hr) (by rcases hx with rfl | rfl <;> rfl) (fun t ht hW => ⟨⟨(some (vI x)), σ, rfl, h, by rw [ht]; exact c11⟩, c12.F ht⟩) c12.2.2 hd c5
theorem j_lreturn {x : Int64} (hd : Dec m pc .lreturn 1) (hr : Mr m = some .long)  (h : Q (some (vL x)) σ) : J m pc lv [vL x] σ Q := by
  intro p l e s mid args below meth c H locs ls ad cA D C
  obtain ⟨c1, c2, c3, c4, c5, c6, c7, c8, c9, c10, c11, c12, c13⟩ := C
  exact W.lret c1 c2 (c4.trans hr) (fun t ht hW => ⟨⟨(some (vL x)), σ, rfl, h, by rw [ht]; exact c11⟩, c12.F ht⟩) c12.2.2 hd c5
theorem j_freturn {x : UInt32} (hd : Dec m pc .freturn 1) (hr : Mr m = some .float)  (h : Q (some (vF x)) σ) : J m pc lv [vF x] σ Q := by
  intro p l e s mid args below meth c H locs ls ad cA D C
  obtain ⟨c1, c2, c3, c4, c5, c6, c7, c8, c9, c10, c11, c12, c13⟩ := C
  exact W.fret c1 c2 (c4.trans hr) (fun t ht hW => ⟨⟨(some (vF x)), σ, rfl, h, by rw [ht]; exact c11⟩, c12.F ht⟩) c12.2.2 hd c5
theorem j_dreturn {x : UInt64} (hd : Dec m pc .dreturn 1) (hr : Mr m = some .double)  (h : Q (some (vD x)) σ) : J m pc lv [vD x] σ Q := by
  intro p l e s mid args below meth c H locs ls ad cA D C
  obtain ⟨c1, c2, c3, c4, c5, c6, c7, c8, c9, c10, c11, c12, c13⟩ := C
  exact W.dret c1 c2 (c4.trans hr) (fun t ht hW => ⟨⟨(some (vD x)), σ, rfl, h, by rw [ht]; exact c11⟩, c12.F ht⟩) c12.2.2 hd c5
theorem j_return  (hd : Dec m pc .return_ 1) (hr : Mr m = none)  (h : Q none σ) : J m pc lv [] σ Q := by
  intro p l e s mid args below meth c H locs ls ad cA D C
  obtain ⟨c1, c2, c3, c4, c5, c6, c7, c8, c9, c10, c11, c12, c13⟩ := C
  exact W.vret c1 c2 (c4.trans hr) (fun t ht hW => ⟨⟨none, σ, rfl, h, by rw [ht]; exact c11⟩, c12.F ht⟩) c12.2.2 hd c5
end JR
section JH
variable {m : Mt} {pc p2 : Nat} {lv lv' : List (Nat × PV)} {st : List PV} {σ : Hp} {Q : Option PV → Hp → Prop}
/-- the context's parts in an order of their own -/
theorem Cx.set {p : Program} {s : State} {mid : MethodId} {args : Array Value} {meth : Method} {c : Code} {H H1 : Heap} {locs locs1 : List Loc} {ls : Array Slot} {ad : Nat → Nat} {cA : Nat → ClassId} {D : va_G} {σ' : Hp} (C : Cx m lv σ p s mid args meth c H locs ls ad cA D) (hP : va_P D vwCl (wsOf ad cA σ') H1) (hS : va_S (Aw ad) s.heap H1 locs1) : Cx m lv σ' p s mid args meth c H1 locs1 ls ad cA D := by
  obtain ⟨c1, c2, c3, c4, c5, c6, c7, c8, c9, c10, c11, c12, c13⟩ := C
  exact ⟨c1, c2, c3, c4, c5, c6, c7, c8, c9, c10, hP, hS, c13⟩
/-- a class of the table: its fields' words stand, their types, their names apart -/
def CF (ci : Nat) (C : String) (T : u_T) (N : Nat) (ty : Nat → FieldType) : Prop := vwCl[ci]? = some (C, T, N) ∧ (∀ w ∈ u_ws C T N, w ∈ tW) ∧ (∀ k, k < N → parseFieldDescriptor (T k).2.2.1 = some (ty k)) ∧ (∀ a, a < N → ∀ b, b < N → a ≠ b → (T a).2.1 ≠ (T b).2.1) ∧ (∀ k, k < N → (T k).1 = C)
/-- entry idx of own's pool is field k of class ci -/
def FA (own : String) (idx ci k : Nat) : Prop := ∃ (C : String) (T : u_T) (N : Nat) (ty : Nat → FieldType), CF ci C T N ty ∧ k < N ∧ (Cond.fieldLink own idx C (T k).2.1 (T k).2.2.1 ∈ tW ∨ ∃ host, Cond.fieldLinkNest own idx C (T k).2.1 (T k).2.2.1 host ∈ tW)
/-- the same, and it may be written with a value of type t -/
def FW (own : String) (idx ci k : Nat) (t : FieldType) : Prop := ∃ (C : String) (T : u_T) (N : Nat) (ty : Nat → FieldType), CF ci C T N ty ∧ k < N ∧ (T k).2.2.2 = false ∧ ty k = t ∧ (Cond.fieldLink own idx C (T k).2.1 (T k).2.2.1 ∈ tW ∨ ∃ host, Cond.fieldLinkNest own idx C (T k).2.1 (T k).2.2.1 host ∈ tW)
theorem W_get {p : Program} {l : Launch} {e : Env} {s : State} {mid : MethodId} {args : Array Value} {below : List Frame} {meth : Method} {c : Code} {H : Heap} {locs : List Loc} {ls : Array Slot} {ad : Nat → Nat} {cA : Nat → ClassId} {D : va_G} {QQ : State → Prop} {rest : List Value} {idx ci k cc : Nat} {fds : List (Nat × Nat)} {fd : Nat × Nat} (C : Cx m lv σ p s mid args meth c H locs ls ad cA D) (hd : Dec m pc (.getfield idx) 3) (hf : FA (Mo m) idx ci k) (hc : lay[cc]? = some (.inr (ci, fds))) (hk : fds[k]? = some fd)
    (w : W p l e (rmOf m) s mid args below meth c H locs 0 0 QQ (F0 mid (pc + 3) ls (fv ad σ cc k fd :: rest))) : W p l e (rmOf m) s mid args below meth c H locs 0 0 QQ (F0 mid pc ls (.ref (ad cc) :: rest)) := by
  obtain ⟨c1, c2, c3, c4, c5, c6, c7, c8, c9, c10, c11, c12, c13⟩ := C
  obtain ⟨C, T, N, ty, ⟨g1, g2, g3, g4, g5⟩, hN, hw⟩ := hf
  have hv : (fds.mapIdx (fun k fd => fv ad σ cc k fd))[k]? = some (fv ad σ cc k fd) := by rw [List.getElem?_mapIdx, hk]; rfl
  rcases hw with hw | ⟨host, hw⟩
  · exact va_get c1 c2 c7 g2 c6 c8 c11 cc (ws_get hc) g1 k hN (c7 _ hw) (fun x h => by rw [g5 k hN] at h; exact h) hv hd w
  · exact va_getN c1 c2 c7 g2 c6 c8 c11 cc (ws_get hc) g1 k hN (c7 _ hw) (fun x h => by rw [g5 k hN] at h; exact h) hv hd w

theorem j_getI {idx ci k cc : Nat} {fds : List (Nat × Nat)}  (hd : Dec m pc (.getfield idx) 3) (hp : pc + 3 = p2) (hf : FA (Mo m) idx ci k) (hc : lay[cc]? = some (.inr (ci, fds))) (hk : fds[k]? = some (0, 0)) (kk : J m p2 lv (vI (hI σ cc k) :: st) σ Q) : J m pc lv (vR cc :: st) σ Q := by
  subst hp
  exact J.go (fun p l e s mid args below meth c H locs ls ad cA D QQ C w => W_get C hd hf hc hk w) kk
theorem j_getZ {idx ci k cc : Nat} {fds : List (Nat × Nat)}  (hd : Dec m pc (.getfield idx) 3) (hp : pc + 3 = p2) (hf : FA (Mo m) idx ci k) (hc : lay[cc]? = some (.inr (ci, fds))) (hk : fds[k]? = some (1, 0)) (kk : J m p2 lv (vI (hI σ cc k) :: st) σ Q) : J m pc lv (vR cc :: st) σ Q := by
  subst hp
  exact J.go (fun p l e s mid args below meth c H locs ls ad cA D QQ C w => W_get C hd hf hc hk w) kk
theorem j_getL {idx ci k cc : Nat} {fds : List (Nat × Nat)}  (hd : Dec m pc (.getfield idx) 3) (hp : pc + 3 = p2) (hf : FA (Mo m) idx ci k) (hc : lay[cc]? = some (.inr (ci, fds))) (hk : fds[k]? = some (2, 0)) (kk : J m p2 lv (vL (hL σ cc k) :: st) σ Q) : J m pc lv (vR cc :: st) σ Q := by
  subst hp
  exact J.go (fun p l e s mid args below meth c H locs ls ad cA D QQ C w => W_get C hd hf hc hk w) kk
theorem j_getF {idx ci k cc : Nat} {fds : List (Nat × Nat)}  (hd : Dec m pc (.getfield idx) 3) (hp : pc + 3 = p2) (hf : FA (Mo m) idx ci k) (hc : lay[cc]? = some (.inr (ci, fds))) (hk : fds[k]? = some (3, 0)) (kk : J m p2 lv (vF (hF σ cc k) :: st) σ Q) : J m pc lv (vR cc :: st) σ Q := by
  subst hp
  exact J.go (fun p l e s mid args below meth c H locs ls ad cA D QQ C w => W_get C hd hf hc hk w) kk
theorem j_getD {idx ci k cc : Nat} {fds : List (Nat × Nat)}  (hd : Dec m pc (.getfield idx) 3) (hp : pc + 3 = p2) (hf : FA (Mo m) idx ci k) (hc : lay[cc]? = some (.inr (ci, fds))) (hk : fds[k]? = some (4, 0)) (kk : J m p2 lv (vD (hD σ cc k) :: st) σ Q) : J m pc lv (vR cc :: st) σ Q := by
  subst hp
  exact J.go (fun p l e s mid args below meth c H locs ls ad cA D QQ C w => W_get C hd hf hc hk w) kk
theorem j_getR {idx ci k cc : Nat} {fds : List (Nat × Nat)} {t : Nat} (hd : Dec m pc (.getfield idx) 3) (hp : pc + 3 = p2) (hf : FA (Mo m) idx ci k) (hc : lay[cc]? = some (.inr (ci, fds))) (hk : fds[k]? = some (5, t)) (kk : J m p2 lv (vR (t) :: st) σ Q) : J m pc lv (vR cc :: st) σ Q := by
  subst hp
  exact J.go (fun p l e s mid args below meth c H locs ls ad cA D QQ C w => W_get C hd hf hc hk w) kk
theorem mapIdx_set {ad : Nat → Nat} {σ σ' : Hp} {cc k : Nat} {fds : List (Nat × Nat)} {v : Value} {fd : Nat × Nat} (hk : fds[k]? = some fd) (hv : v = fv ad σ' cc k fd) (ho : ∀ j fd, j ≠ k → fv ad σ' cc j fd = fv ad σ cc j fd) : (fds.mapIdx (fun k fd => fv ad σ cc k fd)).set k v = fds.mapIdx (fun k fd => fv ad σ' cc k fd) := by
  apply List.ext_getElem?
  intro i
  rw [List.getElem?_set, List.length_mapIdx, List.getElem?_mapIdx, List.getElem?_mapIdx]
  have hlt : k < fds.length := (List.getElem?_eq_some_iff.mp hk).1
  by_cases hi : k = i
  · subst hi
    rw [if_pos rfl, if_pos hlt, hk, hv]; rfl
  · rw [if_neg hi]
    cases hd : fds[i]? with
    | none => rfl
    | some d => simp only [Option.map_some, ho i d (fun q => hi q.symm)]
theorem W_put {p : Program} {l : Launch} {e : Env} {s : State} {mid : MethodId} {args : Array Value} {below : List Frame} {meth : Method} {c : Code} {H : Heap} {locs : List Loc} {ls : Array Slot} {ad : Nat → Nat} {cA : Nat → ClassId} {D : va_G} {QQ : State → Prop} {rest : List Value} {idx ci k cc : Nat} {fds : List (Nat × Nat)} {fd : Nat × Nat} {t : FieldType} {v : Value} {σ' : Hp} (C : Cx m lv σ p s mid args meth c H locs ls ad cA D) (hd : Dec m pc (.putfield idx) 3) (hf : FW (Mo m) idx ci k t) (hc : lay[cc]? = some (.inr (ci, fds))) (hk : fds[k]? = some fd) (hn : narrow t v = v) (hfit : fits t v = true) (hv : v = fv ad σ' cc k fd) (hj : ∀ j fd, j ≠ k → fv ad σ' cc j fd = fv ad σ cc j fd) (ho : ∀ c', c' ≠ cc → hI σ' c' = hI σ c' ∧ hL σ' c' = hL σ c' ∧ hF σ' c' = hF σ c' ∧ hD σ' c' = hD σ c')
    (w : ∀ (H1 : Heap) (locs1 : List Loc), Cx m lv σ' p s mid args meth c H1 locs1 ls ad cA D → W p l e (rmOf m) s mid args below meth c H1 locs1 0 0 QQ (F0 mid (pc + 3) ls rest)) : W p l e (rmOf m) s mid args below meth c H locs 0 0 QQ (F0 mid pc ls (v :: .ref (ad cc) :: rest)) := by
  have C0 := C
  obtain ⟨c1, c2, c3, c4, c5, c6, c7, c8, c9, c10, c11, c12, c13⟩ := C
  obtain ⟨C, T, N, ty, ⟨g1, g2, g3, g4, g5⟩, hN, hfin, hty, hw⟩ := hf
  have hlen : k < (fds.mapIdx (fun k fd => fv ad σ cc k fd)).length := by rw [List.length_mapIdx]; exact (List.getElem?_eq_some_iff.mp hk).1
  have hset : (wsOf ad cA σ).set cc (ad cc, .inr (ci, (fds.mapIdx (fun k fd => fv ad σ cc k fd)).set k v)) = wsOf ad cA σ' := ws_set hc (by rw [mapIdx_set hk hv hj]; rfl) ho
  have hde : parseFieldDescriptor (T k).2.2.1 = some t := by rw [g3 k hN, hty]
  rcases hw with hw | ⟨host, hw⟩
  · refine va_put c1 c2 c7 g2 ty g3 g4 c6 c8 c11 (ws_D c9 cA σ) c12 cc (ws_get hc) g1 k hN (c7 _ hw) (fun x h => by rw [g5 k hN] at h; exact h) hfin hde hn hfit hlen hd (fun H1 locs1 hP hD hS => ?_)
    rw [hset] at hP
    exact w H1 locs1 (C0.set hP hS)
  · refine va_putN c1 c2 c7 g2 ty g3 g4 c6 c8 c11 (ws_D c9 cA σ) c12 cc (ws_get hc) g1 k hN (c7 _ hw) (fun x h => by rw [g5 k hN] at h; exact h) hfin hde hn hfit hlen hd (fun H1 locs1 hP hD hS => ?_)
    rw [hset] at hP
    exact w H1 locs1 (C0.set hP hS)

theorem j_putI {idx ci k cc : Nat} {fds : List (Nat × Nat)} {x : Int} (hd : Dec m pc (.putfield idx) 3) (hp : pc + 3 = p2) (hf : FW (Mo m) idx ci k .int) (hc : lay[cc]? = some (.inr (ci, fds))) (hk : fds[k]? = some (0, 0)) (kk : J m p2 lv st (sI σ cc k x) Q) : J m pc lv (vI x :: vR cc :: st) σ Q := by
  subst hp
  intro p l e s mid args below meth c H locs ls ad cA D C
  have hself : hI (sI σ cc k x) cc k = x := by rw [hI_sI, if_pos ⟨rfl, rfl⟩]
  refine W_put (v := .int (iw x)) (σ' := sI σ cc k x) C hd hf hc hk rfl rfl (by show _ = fv ad _ cc k (0, 0); unfold fv; rw [← hself]; simp only [hself]) (fun j fd hj => ?_) ho_sI (fun H1 locs1 C1 => kk p l e s mid args below meth c H1 locs1 ls ad cA D C1)
  unfold fv
  have hne : ¬ ((j : Int) = (k : Int)) := by omega
  rcases fd with ⟨t, r⟩
  simp only [hI_sI, hL_sI, hF_sI, hD_sI, hne, and_false, if_false]
theorem j_putZ {idx ci k cc : Nat} {fds : List (Nat × Nat)} {x : Int} (hd : Dec m pc (.putfield idx) 3) (hp : pc + 3 = p2) (hf : FW (Mo m) idx ci k .boolean) (hc : lay[cc]? = some (.inr (ci, fds))) (hk : fds[k]? = some (1, 0)) (hx : x = 0 ∨ x = 1) (kk : J m p2 lv st (sI σ cc k x) Q) : J m pc lv (vI x :: vR cc :: st) σ Q := by
  subst hp
  intro p l e s mid args below meth c H locs ls ad cA D C
  have hself : hI (sI σ cc k x) cc k = x := by rw [hI_sI, if_pos ⟨rfl, rfl⟩]
  refine W_put (v := .int (iw x)) (σ' := sI σ cc k x) C hd hf hc hk (by rcases hx with rfl | rfl <;> rfl) (by rcases hx with rfl | rfl <;> rfl) (by show _ = fv ad _ cc k (1, 0); unfold fv; rw [← hself]; simp only [hself]) (fun j fd hj => ?_) ho_sI (fun H1 locs1 C1 => kk p l e s mid args below meth c H1 locs1 ls ad cA D C1)
  unfold fv
  have hne : ¬ ((j : Int) = (k : Int)) := by omega
  rcases fd with ⟨t, r⟩
  simp only [hI_sI, hL_sI, hF_sI, hD_sI, hne, and_false, if_false]
theorem j_putL {idx ci k cc : Nat} {fds : List (Nat × Nat)} {x : Int64} (hd : Dec m pc (.putfield idx) 3) (hp : pc + 3 = p2) (hf : FW (Mo m) idx ci k .long) (hc : lay[cc]? = some (.inr (ci, fds))) (hk : fds[k]? = some (2, 0)) (kk : J m p2 lv st (sL σ cc k x) Q) : J m pc lv (vL x :: vR cc :: st) σ Q := by
  subst hp
  intro p l e s mid args below meth c H locs ls ad cA D C
  have hself : hL (sL σ cc k x) cc k = x := by rw [hL_sL, if_pos ⟨rfl, rfl⟩]
  refine W_put (v := .long x) (σ' := sL σ cc k x) C hd hf hc hk rfl rfl (by show _ = fv ad _ cc k (2, 0); unfold fv; rw [← hself]; simp only [hself]) (fun j fd hj => ?_) ho_sL (fun H1 locs1 C1 => kk p l e s mid args below meth c H1 locs1 ls ad cA D C1)
  unfold fv
  have hne : ¬ ((j : Int) = (k : Int)) := by omega
  rcases fd with ⟨t, r⟩
  simp only [hI_sL, hL_sL, hF_sL, hD_sL, hne, and_false, if_false]
theorem j_putF {idx ci k cc : Nat} {fds : List (Nat × Nat)} {x : UInt32} (hd : Dec m pc (.putfield idx) 3) (hp : pc + 3 = p2) (hf : FW (Mo m) idx ci k .float) (hc : lay[cc]? = some (.inr (ci, fds))) (hk : fds[k]? = some (3, 0)) (kk : J m p2 lv st (sF σ cc k x) Q) : J m pc lv (vF x :: vR cc :: st) σ Q := by
  subst hp
  intro p l e s mid args below meth c H locs ls ad cA D C
  have hself : hF (sF σ cc k x) cc k = x := by rw [hF_sF, if_pos ⟨rfl, rfl⟩]
  refine W_put (v := .float x) (σ' := sF σ cc k x) C hd hf hc hk rfl rfl (by show _ = fv ad _ cc k (3, 0); unfold fv; rw [← hself]; simp only [hself]) (fun j fd hj => ?_) ho_sF (fun H1 locs1 C1 => kk p l e s mid args below meth c H1 locs1 ls ad cA D C1)
  unfold fv
  have hne : ¬ ((j : Int) = (k : Int)) := by omega
  rcases fd with ⟨t, r⟩
  simp only [hI_sF, hL_sF, hF_sF, hD_sF, hne, and_false, if_false]
theorem j_putD {idx ci k cc : Nat} {fds : List (Nat × Nat)} {x : UInt64} (hd : Dec m pc (.putfield idx) 3) (hp : pc + 3 = p2) (hf : FW (Mo m) idx ci k .double) (hc : lay[cc]? = some (.inr (ci, fds))) (hk : fds[k]? = some (4, 0)) (kk : J m p2 lv st (sD σ cc k x) Q) : J m pc lv (vD x :: vR cc :: st) σ Q := by
  subst hp
  intro p l e s mid args below meth c H locs ls ad cA D C
  have hself : hD (sD σ cc k x) cc k = x := by rw [hD_sD, if_pos ⟨rfl, rfl⟩]
  refine W_put (v := .double x) (σ' := sD σ cc k x) C hd hf hc hk rfl rfl (by show _ = fv ad _ cc k (4, 0); unfold fv; rw [← hself]; simp only [hself]) (fun j fd hj => ?_) ho_sD (fun H1 locs1 C1 => kk p l e s mid args below meth c H1 locs1 ls ad cA D C1)
  unfold fv
  have hne : ¬ ((j : Int) = (k : Int)) := by omega
  rcases fd with ⟨t, r⟩
  simp only [hI_sD, hL_sD, hF_sD, hD_sD, hne, and_false, if_false]
theorem j_iald {cc n : Nat} {i : Int} (hd : Dec m pc .iaload 1) (hp : pc + 1 = p2) (hc : lay[cc]? = some (.inl (0, n))) (hn : n ≤ 1000) (h0 : 0 ≤ i) (h1 : i < n) (kk : J m p2 lv (vI (hI σ cc i) :: st) σ Q) : J m pc lv (vI i :: vR cc :: st) σ Q := by
  subst hp
  refine J.go (fun p l e s mid args below meth c H locs ls ad cA D QQ C w => ?_) kk
  obtain ⟨c1, c2, c3, c4, c5, c6, c7, c8, c9, c10, c11, c12, c13⟩ := C
  refine va_iald c1 c2 c8 c11 cc 0 (ws_get hc) rfl (i := iw i) (iw_in h0 h1 (by omega)) hd ?_
  rw [iw_clamp h0 (by omega), Int.toNat_of_nonneg h0]
  exact w
theorem j_zald {cc n : Nat} {i : Int} (hd : Dec m pc .baload 1) (hp : pc + 1 = p2) (hc : lay[cc]? = some (.inl (1, n))) (hn : n ≤ 1000) (h0 : 0 ≤ i) (h1 : i < n) (kk : J m p2 lv (vI (hI σ cc i) :: st) σ Q) : J m pc lv (vI i :: vR cc :: st) σ Q := by
  subst hp
  refine J.go (fun p l e s mid args below meth c H locs ls ad cA D QQ C w => ?_) kk
  obtain ⟨c1, c2, c3, c4, c5, c6, c7, c8, c9, c10, c11, c12, c13⟩ := C
  refine va_zald c1 c2 c8 c11 cc 1 (ws_get hc) rfl (i := iw i) (iw_in h0 h1 (by omega)) hd ?_
  rw [iw_clamp h0 (by omega), Int.toNat_of_nonneg h0]
  exact w
theorem j_lald {cc n : Nat} {i : Int} (hd : Dec m pc .laload 1) (hp : pc + 1 = p2) (hc : lay[cc]? = some (.inl (2, n))) (hn : n ≤ 1000) (h0 : 0 ≤ i) (h1 : i < n) (kk : J m p2 lv (vL (hL σ cc i) :: st) σ Q) : J m pc lv (vI i :: vR cc :: st) σ Q := by
  subst hp
  refine J.go (fun p l e s mid args below meth c H locs ls ad cA D QQ C w => ?_) kk
  obtain ⟨c1, c2, c3, c4, c5, c6, c7, c8, c9, c10, c11, c12, c13⟩ := C
  refine va_lald c1 c2 c8 c11 cc 2 (ws_get hc) rfl (i := iw i) (iw_in h0 h1 (by omega)) hd ?_
  rw [iw_clamp h0 (by omega), Int.toNat_of_nonneg h0]
  exact w
theorem j_fald {cc n : Nat} {i : Int} (hd : Dec m pc .faload 1) (hp : pc + 1 = p2) (hc : lay[cc]? = some (.inl (3, n))) (hn : n ≤ 1000) (h0 : 0 ≤ i) (h1 : i < n) (kk : J m p2 lv (vF (hF σ cc i) :: st) σ Q) : J m pc lv (vI i :: vR cc :: st) σ Q := by
  subst hp
  refine J.go (fun p l e s mid args below meth c H locs ls ad cA D QQ C w => ?_) kk
  obtain ⟨c1, c2, c3, c4, c5, c6, c7, c8, c9, c10, c11, c12, c13⟩ := C
  refine va_fald c1 c2 c8 c11 cc 3 (ws_get hc) rfl (i := iw i) (iw_in h0 h1 (by omega)) hd ?_
  rw [iw_clamp h0 (by omega), Int.toNat_of_nonneg h0]
  exact w
theorem j_dald {cc n : Nat} {i : Int} (hd : Dec m pc .daload 1) (hp : pc + 1 = p2) (hc : lay[cc]? = some (.inl (4, n))) (hn : n ≤ 1000) (h0 : 0 ≤ i) (h1 : i < n) (kk : J m p2 lv (vD (hD σ cc i) :: st) σ Q) : J m pc lv (vI i :: vR cc :: st) σ Q := by
  subst hp
  refine J.go (fun p l e s mid args below meth c H locs ls ad cA D QQ C w => ?_) kk
  obtain ⟨c1, c2, c3, c4, c5, c6, c7, c8, c9, c10, c11, c12, c13⟩ := C
  refine va_dald c1 c2 c8 c11 cc 4 (ws_get hc) rfl (i := iw i) (iw_in h0 h1 (by omega)) hd ?_
  rw [iw_clamp h0 (by omega), Int.toNat_of_nonneg h0]
  exact w
theorem j_iast {cc n : Nat} {i : Int} {x : Int} (hd : Dec m pc .iastore 1) (hp : pc + 1 = p2) (hc : lay[cc]? = some (.inl (0, n))) (hn : n ≤ 1000) (h0 : 0 ≤ i) (h1 : i < n) (kk : J m p2 lv st (sI σ cc i x) Q) : J m pc lv (vI x :: vI i :: vR cc :: st) σ Q := by
  subst hp
  intro p l e s mid args below meth c H locs ls ad cA D C
  have C0 := C
  obtain ⟨c1, c2, c3, c4, c5, c6, c7, c8, c9, c10, c11, c12, c13⟩ := C
  refine va_iast c1 c2 c8 c11 (ws_D c9 cA σ) c12 cc 0 (ws_get hc) rfl (i := iw i) (iw_in h0 h1 (by omega)) hd (fun H1 locs1 hP _ hS => ?_)
  rw [ws_set (σ' := sI σ cc i x) hc ?_ ho_sI] at hP
  · exact kk p l e s mid args below meth c H1 locs1 ls ad cA D (C0.set hP hS)
  · show _ = Sum.inl (av cA (sI σ cc i x) cc 0 n)
    unfold av
    have e : (upd (fun j => iw (hI σ cc j)) (iw i).toNatClampNeg (iw x)) = fun j : Nat => iw (hI (sI σ cc i x) cc j) := by
      funext j; rw [iw_clamp h0 (by omega)]; exact (row_up iw σ.1 cc x h0 j).symm
    rw [e]
    rfl
theorem j_last {cc n : Nat} {i : Int} {x : Int64} (hd : Dec m pc .lastore 1) (hp : pc + 1 = p2) (hc : lay[cc]? = some (.inl (2, n))) (hn : n ≤ 1000) (h0 : 0 ≤ i) (h1 : i < n) (kk : J m p2 lv st (sL σ cc i x) Q) : J m pc lv (vL x :: vI i :: vR cc :: st) σ Q := by
  subst hp
  intro p l e s mid args below meth c H locs ls ad cA D C
  have C0 := C
  obtain ⟨c1, c2, c3, c4, c5, c6, c7, c8, c9, c10, c11, c12, c13⟩ := C
  refine va_last c1 c2 c8 c11 (ws_D c9 cA σ) c12 cc 2 (ws_get hc) rfl (i := iw i) (iw_in h0 h1 (by omega)) hd (fun H1 locs1 hP _ hS => ?_)
  rw [ws_set (σ' := sL σ cc i x) hc ?_ ho_sL] at hP
  · exact kk p l e s mid args below meth c H1 locs1 ls ad cA D (C0.set hP hS)
  · show _ = Sum.inl (av cA (sL σ cc i x) cc 2 n)
    unfold av
    have e : (vp_updL (fun j => hL σ cc j) (iw i).toNatClampNeg x) = fun j : Nat => hL (sL σ cc i x) cc j := by
      funext j; rw [iw_clamp h0 (by omega)]; exact (row_up id σ.2.1 cc x h0 j).symm
    rw [e]
    rfl
theorem j_fast {cc n : Nat} {i : Int} {x : UInt32} (hd : Dec m pc .fastore 1) (hp : pc + 1 = p2) (hc : lay[cc]? = some (.inl (3, n))) (hn : n ≤ 1000) (h0 : 0 ≤ i) (h1 : i < n) (kk : J m p2 lv st (sF σ cc i x) Q) : J m pc lv (vF x :: vI i :: vR cc :: st) σ Q := by
  subst hp
  intro p l e s mid args below meth c H locs ls ad cA D C
  have C0 := C
  obtain ⟨c1, c2, c3, c4, c5, c6, c7, c8, c9, c10, c11, c12, c13⟩ := C
  refine va_fast c1 c2 c8 c11 (ws_D c9 cA σ) c12 cc 3 (ws_get hc) rfl (i := iw i) (iw_in h0 h1 (by omega)) hd (fun H1 locs1 hP _ hS => ?_)
  rw [ws_set (σ' := sF σ cc i x) hc ?_ ho_sF] at hP
  · exact kk p l e s mid args below meth c H1 locs1 ls ad cA D (C0.set hP hS)
  · show _ = Sum.inl (av cA (sF σ cc i x) cc 3 n)
    unfold av
    have e : (vf_upd (fun j => hF σ cc j) (iw i).toNatClampNeg x) = fun j : Nat => hF (sF σ cc i x) cc j := by
      funext j; rw [iw_clamp h0 (by omega)]; exact (row_up id σ.2.2.1 cc x h0 j).symm
    rw [e]
    rfl
theorem j_dast {cc n : Nat} {i : Int} {x : UInt64} (hd : Dec m pc .dastore 1) (hp : pc + 1 = p2) (hc : lay[cc]? = some (.inl (4, n))) (hn : n ≤ 1000) (h0 : 0 ≤ i) (h1 : i < n) (kk : J m p2 lv st (sD σ cc i x) Q) : J m pc lv (vD x :: vI i :: vR cc :: st) σ Q := by
  subst hp
  intro p l e s mid args below meth c H locs ls ad cA D C
  have C0 := C
  obtain ⟨c1, c2, c3, c4, c5, c6, c7, c8, c9, c10, c11, c12, c13⟩ := C
  refine va_dast c1 c2 c8 c11 (ws_D c9 cA σ) c12 cc 4 (ws_get hc) rfl (i := iw i) (iw_in h0 h1 (by omega)) hd (fun H1 locs1 hP _ hS => ?_)
  rw [ws_set (σ' := sD σ cc i x) hc ?_ ho_sD] at hP
  · exact kk p l e s mid args below meth c H1 locs1 ls ad cA D (C0.set hP hS)
  · show _ = Sum.inl (av cA (sD σ cc i x) cc 4 n)
    unfold av
    have e : (vf_upd (fun j => hD σ cc j) (iw i).toNatClampNeg x) = fun j : Nat => hD (sD σ cc i x) cc j := by
      funext j; rw [iw_clamp h0 (by omega)]; exact (row_up id σ.2.2.2 cc x h0 j).symm
    rw [e]
    rfl
theorem j_zast {cc n : Nat} {i : Int} {x : Int} (hd : Dec m pc .bastore 1) (hp : pc + 1 = p2) (hc : lay[cc]? = some (.inl (1, n))) (hn : n ≤ 1000) (h0 : 0 ≤ i) (h1 : i < n) (hx : x = 0 ∨ x = 1) (kk : J m p2 lv st (sI σ cc i x) Q) : J m pc lv (vI x :: vI i :: vR cc :: st) σ Q := by
  subst hp
  intro p l e s mid args below meth c H locs ls ad cA D C
  have C0 := C
  obtain ⟨c1, c2, c3, c4, c5, c6, c7, c8, c9, c10, c11, c12, c13⟩ := C
  refine va_zast c1 c2 c8 c11 (ws_D c9 cA σ) c12 cc 1 (ws_get hc) rfl (i := iw i) (iw_in h0 h1 (by omega)) hd (fun H1 locs1 hP _ hS => ?_)
  rw [ws_set (σ' := sI σ cc i x) hc ?_ ho_sI] at hP
  · exact kk p l e s mid args below meth c H1 locs1 ls ad cA D (C0.set hP hS)
  · show _ = Sum.inl (av cA (sI σ cc i x) cc 1 n)
    unfold av
    have hb : vp_nar .boolean (iw x) = iw x := by rcases hx with rfl | rfl <;> rfl
    have e : (upd (fun j => iw (hI σ cc j)) (iw i).toNatClampNeg (vp_nar .boolean (iw x))) = fun j : Nat => iw (hI (sI σ cc i x) cc j) := by
      funext j; rw [iw_clamp h0 (by omega), hb]; exact (row_up iw σ.1 cc x h0 j).symm
    rw [e]
    rfl
end JH
