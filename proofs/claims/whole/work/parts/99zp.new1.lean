/-! ===== constructors: a world that grows ===== -/
def zr (t n : Nat) : vp_A := match t with
  | 0 => (n, .inl (fun _ => 0))
  | 1 => (n, .inl (fun _ => 0))
  | 2 => (n, .inr (.inl (fun _ => 0)))
  | 3 => (n, .inr (.inr (.inl (fun _ => 0))))
  | _ => (n, .inr (.inr (.inr (.inl (fun _ => 0)))))
def fil (n : Nat) : Nat → Int32 := fun j => iw (if j < n then -1 else 0)
theorem fil_0 : fil 0 = fun _ => 0 := by
  funext j
  unfold fil
  rw [if_neg (by omega)]; rfl
theorem fil_s (n : Nat) : upd (fil n) n (iw (-1)) = fil (n + 1) := by
  funext j
  unfold upd fil
  by_cases e : j = n
  · rw [if_pos e, if_pos (by omega)]
  · rw [if_neg e]
    by_cases h : j < n
    · rw [if_pos h, if_pos (by omega)]
    · rw [if_neg h, if_neg (by omega)]
def Mst (U : State) : Prop := va_Nw (.methodLinkNest "TwinPanel" 9 (My mP_init) "TwinPanel") U ∧ va_Nw (.methodLinkNest "TwinPanel" 46 (My mS_init) "TwinPanel") U
theorem Mst.moved {s U : State} (hW : s.WarmedH U.vm) (h : Mst s) : Mst U := ⟨va_Nw.warmM hW h.1, va_Nw.warmM hW h.2⟩
def rmN (m : Mt) (mc ms : Nat) : Room := { frames := Mf m, cells := mc, slots := ms, locals := Ml m }
def NQ (D : va_G) (w1 : (Nat → Nat) → va_W) (A : Nat → Prop) : Array Value → State → Outcome → State → Prop := va_Qv (fun _ : Nat → Nat => True) (fun u t => va_P D vwCl (w1 u) t.heap ∧ va_D A (w1 u)) A
def Nxc (cA : Nat → ClassId) (D : va_G) (m : Mt) (lv : List (Nat × Value)) (ws : va_W) (p : Program) (s : State) (mid : MethodId) (args : Array Value) (meth : Method) (c : Code) (H : Heap) (locs : List Loc) (ls : Array Slot) (A : Nat → Prop) : Prop :=
  p.tables.exec = Jvm.exec ∧ c.code = Mc m ∧ c.maxLocals = Mn m ∧ meth.sig.returnType = Mr m ∧ meth.locks = false ∧ s.vm.findClass (Mo m) = some mid.cls ∧ (∀ w ∈ tW, w.before args s = true) ∧ meth.name = "<init>" ∧ va_K D vwCl (tysOf cA) s ∧ va_P D vwCl ws H ∧ va_D A ws ∧ va_S A s.heap H locs ∧ (∀ q : Nat, s.heap.size ≤ q → A q) ∧ lv_has ls (Mn m) lv ∧ Mst s
def NJ (cA : Nat → ClassId) (D : va_G) (m : Mt) (mc ms : Nat) (w1 : (Nat → Nat) → va_W) (pc : Nat) (lv : List (Nat × Value)) (st : List Value) (ws : va_W) (k n : Nat) : Prop :=
  ∀ (p : Program) (l : Launch) (e : Env) (s : State) (mid : MethodId) (args : Array Value) (below : List Frame) (meth : Method) (c : Code) (H : Heap) (locs : List Loc) (ls : Array Slot) (A : Nat → Prop), Nxc cA D m lv ws p s mid args meth c H locs ls A → W p l e (rmN m mc ms) s mid args below meth c H locs k n (MQ below (NQ D w1 A) args s mc ms A) (F0 mid pc ls st)
section NJR
variable {cA : Nat → ClassId} {D : va_G} {m : Mt} {mc ms : Nat} {w1 : (Nat → Nat) → va_W} {pc p2 : Nat} {lv lv' : List (Nat × Value)} {st : List Value} {ws : va_W} {k n : Nat}
theorem NJ.go {st2 : List Value} (h : ∀ (p : Program) (l : Launch) (e : Env) (s : State) (mid : MethodId) (args : Array Value) (below : List Frame) (meth : Method) (c : Code) (H : Heap) (locs : List Loc) (ls : Array Slot) (A : Nat → Prop) (QQ : State → Prop), Nxc cA D m lv ws p s mid args meth c H locs ls A → W p l e (rmN m mc ms) s mid args below meth c H locs k n QQ (F0 mid p2 ls st2) → W p l e (rmN m mc ms) s mid args below meth c H locs k n QQ (F0 mid pc ls st)) (kk : NJ cA D m mc ms w1 p2 lv st2 ws k n) : NJ cA D m mc ms w1 pc lv st ws k n :=
  fun p l e s mid args below meth c H locs ls A C => h p l e s mid args below meth c H locs ls A _ C (kk p l e s mid args below meth c H locs ls A C)
theorem n_iconst {x : Int} {v : Int32} (hd : Dec m pc (.iconst x) 1) (hp : pc + 1 = p2) (hv : Int32.ofInt x = v) (kk : NJ cA D m mc ms w1 p2 lv (.int v :: st) ws k n) : NJ cA D m mc ms w1 pc lv (st) ws k n := by
  subst hp
  exact NJ.go (fun p l e s mid args below meth c H locs ls A QQ C w => lv_iconst C.1 C.2.1 hd hv w) kk
theorem n_bipush {x : Int} {v : Int32} (hd : Dec m pc (.bipush x) 2) (hp : pc + 2 = p2) (hv : (Int8.ofInt x).toInt32 = v) (kk : NJ cA D m mc ms w1 p2 lv (.int v :: st) ws k n) : NJ cA D m mc ms w1 pc lv (st) ws k n := by
  subst hp
  exact NJ.go (fun p l e s mid args below meth c H locs ls A QQ C w => lv_bipush C.1 C.2.1 hd hv w) kk
theorem n_sipush {x : Int} {v : Int32} (hd : Dec m pc (.sipush x) 3) (hp : pc + 3 = p2) (hv : (Int16.ofInt x).toInt32 = v) (kk : NJ cA D m mc ms w1 p2 lv (.int v :: st) ws k n) : NJ cA D m mc ms w1 pc lv (st) ws k n := by
  subst hp
  exact NJ.go (fun p l e s mid args below meth c H locs ls A QQ C w => lv_sipush C.1 C.2.1 hd hv w) kk
theorem n_aload_n {i : Fin 4} {q : Nat} (hd : Dec m pc (.aload_n i) 1) (hp : pc + 1 = p2) (j : Nat) (hl : lv[j]? = some ((i : Nat), Value.ref q)) (kk : NJ cA D m mc ms w1 p2 lv (.ref q :: st) ws k n) : NJ cA D m mc ms w1 pc lv (st) ws k n := by
  subst hp
  exact NJ.go (fun p l e s mid args below meth c H locs ls A QQ C w => lv_aload_n C.1 C.2.1 hd rfl (lv_at C.2.2.2.2.2.2.2.2.2.2.2.2.2.1 j hl) w) kk
theorem n_iload_n {i : Fin 4} {x : Int32} (hd : Dec m pc (.iload_n i) 1) (hp : pc + 1 = p2) (j : Nat) (hl : lv[j]? = some ((i : Nat), Value.int x)) (kk : NJ cA D m mc ms w1 p2 lv (.int x :: st) ws k n) : NJ cA D m mc ms w1 pc lv (st) ws k n := by
  subst hp
  exact NJ.go (fun p l e s mid args below meth c H locs ls A QQ C w => lv_iload_n C.1 C.2.1 hd rfl (lv_at C.2.2.2.2.2.2.2.2.2.2.2.2.2.1 j hl) w) kk
theorem n_iload {i : Nat} {x : Int32} (hd : Dec m pc (.iload i) 2) (hp : pc + 2 = p2) (j : Nat) (hl : lv[j]? = some (i, Value.int x)) (kk : NJ cA D m mc ms w1 p2 lv (.int x :: st) ws k n) : NJ cA D m mc ms w1 pc lv (st) ws k n := by
  subst hp
  exact NJ.go (fun p l e s mid args below meth c H locs ls A QQ C w => lv_iload C.1 C.2.1 hd (lv_at C.2.2.2.2.2.2.2.2.2.2.2.2.2.1 j hl) w) kk
theorem n_dup {v : Value} (hd : Dec m pc .dup 1) (hp : pc + 1 = p2) (hc : v.category = 1) (kk : NJ cA D m mc ms w1 p2 lv (v :: v :: st) ws k n) : NJ cA D m mc ms w1 pc lv (v :: st) ws k n := by
  subst hp
  exact NJ.go (fun p l e s mid args below meth c H locs ls A QQ C w => lv_dup C.1 C.2.1 hd hc w) kk
theorem n_goto {off : Int} (hd : Dec m pc (.goto off) 3) (ht : (pc : Int) + off = (p2 : Int)) (kk : NJ cA D m mc ms w1 p2 lv st ws k n) : NJ cA D m mc ms w1 pc lv st ws k n :=
  NJ.go (fun p l e s mid args below meth c H locs ls A QQ C w => lv_goto C.1 C.2.1 hd ht w) kk
theorem n_objInit {q idx : Nat} (hd : Dec m pc (.invokespecial idx) 3) (hp : pc + 3 = p2) (hl : Cond.methodLink (Mo m) idx Lib.objectInit ∈ tW) (hF : 1 ≤ Mf m) (hR : 20 ≤ Ml m) (kk : NJ cA D m mc ms w1 p2 lv [] ws k n) : NJ cA D m mc ms w1 pc lv [.ref q] ws k n := by
  subst hp
  refine NJ.go (fun p l e s mid args below meth c H locs ls A QQ C w => ?_) kk
  obtain ⟨c1, c2, c3, c4, c5, c6, c7, c8, c9, c10, c11, c12, c13, c14, c15⟩ := C
  refine W.objInit c1 c2 c6 (c7 _ hl) (c7 _ (inW1 20 rfl rfl : Cond.instanceMethod Lib.objectInit ∈ tW)) (c7 _ (inW1 21 rfl rfl : Cond.code Lib.objectInit ⟨#[0xb1]⟩ 1 none ∈ tW)) rfl (by rw [c3]; exact c14.1) rfl hd hF (by have h : 2 * (F0 mid pc ls [Value.ref q]).monitorRoom + (List.map (fun v => v.category) ([] : List Value)).sum ≤ 8 := lv_room (Nat.zero_le _); show _ + 12 ≤ Ml m; omega) ?_
  exact w
theorem n_newa_0 {v : Int32} {N : Nat} {w0 : Nat × va_E} {as : va_W} (hd : Dec m pc (.newarray .int) 2) (hp : pc + 2 = p2) (hv : ¬ v < 0 ∧ v.toNatClampNeg = N ∧ N ≤ 1000) (hc : k + 1 ≤ mc) (hs : n + N ≤ ms) (kk : ∀ q : Nat, NJ cA D m mc ms w1 p2 lv (.ref q :: st) (w0 :: (as ++ [(q, .inl (cA 0, zr 0 N))])) (k + 1) (n + N)) : NJ cA D m mc ms w1 pc lv (.int v :: st) (w0 :: as) k n := by
  subst hp
  intro p l e s mid args below meth c H locs ls A C
  obtain ⟨c1, c2, c3, c4, c5, c6, c7, c8, c9, c10, c11, c12, c13, c14, c15⟩ := C
  refine va_newa (atype := .int) c1 c2 (c7 _ (inW1 100 rfl rfl : Cond.arrayClass .int ∈ tW)) rfl c9 c10 c11 c12 c13 (a0 := zr 0 N) (fun _ => rfl) hv.1 hv.2.1 (Nat.le_trans (Nat.mul_le_mul hv.2.2 (by decide : componentBytes .int ≤ 8)) (by decide)) hc hs hd (fun q cA' H1 hK hP hD hS => ?_)
  have e1 : cA' = cA 0 := by
    have h1 := va_nm_int (hK.2 5 (cA', .int) rfl).2
    have h2 := va_nm_int (c9.2 0 (cA 0, .int) rfl).2
    rw [h2] at h1
    exact (Option.some.inj h1).symm
  subst e1
  exact kk q p l e s mid args below meth c H1 locs ls A ⟨c1, c2, c3, c4, c5, c6, c7, c8, c9, hP, hD, hS, c13, c14, c15⟩
theorem n_newa_1 {v : Int32} {N : Nat} {w0 : Nat × va_E} {as : va_W} (hd : Dec m pc (.newarray .boolean) 2) (hp : pc + 2 = p2) (hv : ¬ v < 0 ∧ v.toNatClampNeg = N ∧ N ≤ 1000) (hc : k + 1 ≤ mc) (hs : n + N ≤ ms) (kk : ∀ q : Nat, NJ cA D m mc ms w1 p2 lv (.ref q :: st) (w0 :: (as ++ [(q, .inl (cA 1, zr 1 N))])) (k + 1) (n + N)) : NJ cA D m mc ms w1 pc lv (.int v :: st) (w0 :: as) k n := by
  subst hp
  intro p l e s mid args below meth c H locs ls A C
  obtain ⟨c1, c2, c3, c4, c5, c6, c7, c8, c9, c10, c11, c12, c13, c14, c15⟩ := C
  refine va_newa (atype := .boolean) c1 c2 (c7 _ (inW1 103 rfl rfl : Cond.arrayClass .boolean ∈ tW)) rfl c9 c10 c11 c12 c13 (a0 := zr 1 N) (fun _ => rfl) hv.1 hv.2.1 (Nat.le_trans (Nat.mul_le_mul hv.2.2 (by decide : componentBytes .boolean ≤ 8)) (by decide)) hc hs hd (fun q cA' H1 hK hP hD hS => ?_)
  have e1 : cA' = cA 1 := by
    have h1 := va_nm_boolean (hK.2 5 (cA', .boolean) rfl).2
    have h2 := va_nm_boolean (c9.2 1 (cA 1, .boolean) rfl).2
    rw [h2] at h1
    exact (Option.some.inj h1).symm
  subst e1
  exact kk q p l e s mid args below meth c H1 locs ls A ⟨c1, c2, c3, c4, c5, c6, c7, c8, c9, hP, hD, hS, c13, c14, c15⟩
theorem n_newa_2 {v : Int32} {N : Nat} {w0 : Nat × va_E} {as : va_W} (hd : Dec m pc (.newarray .long) 2) (hp : pc + 2 = p2) (hv : ¬ v < 0 ∧ v.toNatClampNeg = N ∧ N ≤ 1000) (hc : k + 1 ≤ mc) (hs : n + N ≤ ms) (kk : ∀ q : Nat, NJ cA D m mc ms w1 p2 lv (.ref q :: st) (w0 :: (as ++ [(q, .inl (cA 2, zr 2 N))])) (k + 1) (n + N)) : NJ cA D m mc ms w1 pc lv (.int v :: st) (w0 :: as) k n := by
  subst hp
  intro p l e s mid args below meth c H locs ls A C
  obtain ⟨c1, c2, c3, c4, c5, c6, c7, c8, c9, c10, c11, c12, c13, c14, c15⟩ := C
  refine va_newa (atype := .long) c1 c2 (c7 _ (inW1 101 rfl rfl : Cond.arrayClass .long ∈ tW)) rfl c9 c10 c11 c12 c13 (a0 := zr 2 N) (fun _ => rfl) hv.1 hv.2.1 (Nat.le_trans (Nat.mul_le_mul hv.2.2 (by decide : componentBytes .long ≤ 8)) (by decide)) hc hs hd (fun q cA' H1 hK hP hD hS => ?_)
  have e1 : cA' = cA 2 := by
    have h1 := va_nm_long (hK.2 5 (cA', .long) rfl).2
    have h2 := va_nm_long (c9.2 2 (cA 2, .long) rfl).2
    rw [h2] at h1
    exact (Option.some.inj h1).symm
  subst e1
  exact kk q p l e s mid args below meth c H1 locs ls A ⟨c1, c2, c3, c4, c5, c6, c7, c8, c9, hP, hD, hS, c13, c14, c15⟩
theorem n_newa_3 {v : Int32} {N : Nat} {w0 : Nat × va_E} {as : va_W} (hd : Dec m pc (.newarray .float) 2) (hp : pc + 2 = p2) (hv : ¬ v < 0 ∧ v.toNatClampNeg = N ∧ N ≤ 1000) (hc : k + 1 ≤ mc) (hs : n + N ≤ ms) (kk : ∀ q : Nat, NJ cA D m mc ms w1 p2 lv (.ref q :: st) (w0 :: (as ++ [(q, .inl (cA 3, zr 3 N))])) (k + 1) (n + N)) : NJ cA D m mc ms w1 pc lv (.int v :: st) (w0 :: as) k n := by
  subst hp
  intro p l e s mid args below meth c H locs ls A C
  obtain ⟨c1, c2, c3, c4, c5, c6, c7, c8, c9, c10, c11, c12, c13, c14, c15⟩ := C
  refine va_newa (atype := .float) c1 c2 (c7 _ (inW4 204 rfl rfl : Cond.arrayClass .float ∈ tW)) rfl c9 c10 c11 c12 c13 (a0 := zr 3 N) (fun _ => rfl) hv.1 hv.2.1 (Nat.le_trans (Nat.mul_le_mul hv.2.2 (by decide : componentBytes .float ≤ 8)) (by decide)) hc hs hd (fun q cA' H1 hK hP hD hS => ?_)
  have e1 : cA' = cA 3 := by
    have h1 := va_nm_float (hK.2 5 (cA', .float) rfl).2
    have h2 := va_nm_float (c9.2 3 (cA 3, .float) rfl).2
    rw [h2] at h1
    exact (Option.some.inj h1).symm
  subst e1
  exact kk q p l e s mid args below meth c H1 locs ls A ⟨c1, c2, c3, c4, c5, c6, c7, c8, c9, hP, hD, hS, c13, c14, c15⟩
theorem n_newa_4 {v : Int32} {N : Nat} {w0 : Nat × va_E} {as : va_W} (hd : Dec m pc (.newarray .double) 2) (hp : pc + 2 = p2) (hv : ¬ v < 0 ∧ v.toNatClampNeg = N ∧ N ≤ 1000) (hc : k + 1 ≤ mc) (hs : n + N ≤ ms) (kk : ∀ q : Nat, NJ cA D m mc ms w1 p2 lv (.ref q :: st) (w0 :: (as ++ [(q, .inl (cA 4, zr 4 N))])) (k + 1) (n + N)) : NJ cA D m mc ms w1 pc lv (.int v :: st) (w0 :: as) k n := by
  subst hp
  intro p l e s mid args below meth c H locs ls A C
  obtain ⟨c1, c2, c3, c4, c5, c6, c7, c8, c9, c10, c11, c12, c13, c14, c15⟩ := C
  refine va_newa (atype := .double) c1 c2 (c7 _ (inW1 102 rfl rfl : Cond.arrayClass .double ∈ tW)) rfl c9 c10 c11 c12 c13 (a0 := zr 4 N) (fun _ => rfl) hv.1 hv.2.1 (Nat.le_trans (Nat.mul_le_mul hv.2.2 (by decide : componentBytes .double ≤ 8)) (by decide)) hc hs hd (fun q cA' H1 hK hP hD hS => ?_)
  have e1 : cA' = cA 4 := by
    have h1 := va_nm_double (hK.2 5 (cA', .double) rfl).2
    have h2 := va_nm_double (c9.2 4 (cA 4, .double) rfl).2
    rw [h2] at h1
    exact (Option.some.inj h1).symm
  subst e1
  exact kk q p l e s mid args below meth c H1 locs ls A ⟨c1, c2, c3, c4, c5, c6, c7, c8, c9, hP, hD, hS, c13, c14, c15⟩
theorem n_putF {ci kf idx N : Nat} {C : String} {T : u_T} {ty : Nat → FieldType} {h0 : Nat} {fs : List Value} {as : va_W} {v : Value} {tt : FieldType} (hd : Dec m pc (.putfield idx) 3) (hp : pc + 3 = p2) (hf : CF ci C T N ty) (hk : kf < N) (hw : Cond.fieldLink (Mo m) idx C (T kf).2.1 (T kf).2.2.1 ∈ tW) (hfin : (T kf).2.2.2 = true) (hC : C = Mo m) (ht : ty kf = tt) (hn : narrow tt v = v) (hfit : fits tt v = true) (hl : kf < fs.length) (kk : NJ cA D m mc ms w1 p2 lv st ((h0, .inr (ci, fs.set kf v)) :: as) k n) : NJ cA D m mc ms w1 pc lv (v :: .ref h0 :: st) ((h0, .inr (ci, fs)) :: as) k n := by
  subst hp
  intro p l e s mid args below meth c H locs ls A Cc
  obtain ⟨c1, c2, c3, c4, c5, c6, c7, c8, c9, c10, c11, c12, c13, c14, c15⟩ := Cc
  obtain ⟨g1, g2, g3, g4, g5⟩ := hf
  refine va_putF c1 c2 c7 g2 ty g3 g4 c6 c9 c10 c11 c12 0 rfl g1 kf hk (c7 _ hw) (fun x h => by rw [g5 kf hk] at h; exact h) hfin c8 (g5 kf hk |>.trans hC) (by rw [g3 kf hk, ht]) hn hfit hl hd (fun H1 locs1 hP hD hS => ?_)
  exact kk p l e s mid args below meth c H1 locs1 ls A ⟨c1, c2, c3, c4, c5, c6, c7, c8, c9, hP, hD, hS, c13, c14, c15⟩
theorem n_put {ci kf idx N : Nat} {C : String} {T : u_T} {ty : Nat → FieldType} {h0 : Nat} {fs : List Value} {as : va_W} {v : Value} {tt : FieldType} (hd : Dec m pc (.putfield idx) 3) (hp : pc + 3 = p2) (hf : CF ci C T N ty) (hk : kf < N) (hw : Cond.fieldLink (Mo m) idx C (T kf).2.1 (T kf).2.2.1 ∈ tW) (hfin : (T kf).2.2.2 = false) (hC : C = Mo m) (ht : ty kf = tt) (hn : narrow tt v = v) (hfit : fits tt v = true) (hl : kf < fs.length) (kk : NJ cA D m mc ms w1 p2 lv st ((h0, .inr (ci, fs.set kf v)) :: as) k n) : NJ cA D m mc ms w1 pc lv (v :: .ref h0 :: st) ((h0, .inr (ci, fs)) :: as) k n := by
  subst hp
  intro p l e s mid args below meth c H locs ls A Cc
  obtain ⟨c1, c2, c3, c4, c5, c6, c7, c8, c9, c10, c11, c12, c13, c14, c15⟩ := Cc
  obtain ⟨g1, g2, g3, g4, g5⟩ := hf
  refine va_put c1 c2 c7 g2 ty g3 g4 c6 c9 c10 c11 c12 0 rfl g1 kf hk (c7 _ hw) (fun x h => by rw [g5 kf hk] at h; exact h) hfin (by rw [g3 kf hk, ht]) hn hfit hl hd (fun H1 locs1 hP hD hS => ?_)
  exact kk p l e s mid args below meth c H1 locs1 ls A ⟨c1, c2, c3, c4, c5, c6, c7, c8, c9, hP, hD, hS, c13, c14, c15⟩
theorem n_get {ci kf idx N : Nat} {C : String} {T : u_T} {ty : Nat → FieldType} {h0 : Nat} {fs : List Value} {as : va_W} {v : Value} (hd : Dec m pc (.getfield idx) 3) (hp : pc + 3 = p2) (hf : CF ci C T N ty) (hk : kf < N) (hw : Cond.fieldLink (Mo m) idx C (T kf).2.1 (T kf).2.2.1 ∈ tW) (hv : fs[kf]? = some v) (kk : NJ cA D m mc ms w1 p2 lv (v :: st) ((h0, .inr (ci, fs)) :: as) k n) : NJ cA D m mc ms w1 pc lv (.ref h0 :: st) ((h0, .inr (ci, fs)) :: as) k n := by
  subst hp
  refine NJ.go (fun p l e s mid args below meth c H locs ls A QQ C w => ?_) kk
  obtain ⟨c1, c2, c3, c4, c5, c6, c7, c8, c9, c10, c11, c12, c13, c14, c15⟩ := C
  obtain ⟨g1, g2, g3, g4, g5⟩ := hf
  exact va_get c1 c2 c7 g2 c6 c9 c10 0 rfl g1 kf hk (c7 _ hw) (fun x h => by rw [g5 kf hk] at h; exact h) hv hd w
theorem n_new {ci idx N : Nat} {C : String} {T : u_T} {ty : Nat → FieldType} {fs : List Value} {w0 : Nat × va_E} {as : va_W} (hd : Dec m pc (.new idx) 3) (hp : pc + 3 = p2) (hf : CF ci C T N ty) (hcl : Cond.classLink (Mo m) idx C ∈ tW) (hin : Cond.instantiable C N ∈ tW) (hini : Cond.initialized C ∈ tW) (hfs : ∀ j, j < N → defaultValue (ty j) = vp_V fs j) (hc : k + 1 ≤ mc) (hs : n + N ≤ ms) (kk : ∀ q : Nat, NJ cA D m mc ms w1 p2 lv (.ref q :: st) (w0 :: (as ++ [(q, .inr (ci, fs))])) (k + 1) (n + N)) : NJ cA D m mc ms w1 pc lv st (w0 :: as) k n := by
  subst hp
  intro p l e s mid args below meth c H locs ls A Cc
  obtain ⟨c1, c2, c3, c4, c5, c6, c7, c8, c9, c10, c11, c12, c13, c14, c15⟩ := Cc
  obtain ⟨g1, g2, g3, g4, g5⟩ := hf
  refine va_new c1 c2 c7 g2 ty g3 c6 (c7 _ hcl) (c7 _ hin) (c7 _ hini) c9 c10 c11 c12 c13 g1 hfs hc hs hd (fun q H1 hP hD hS => ?_)
  exact kk q p l e s mid args below meth c H1 locs ls A ⟨c1, c2, c3, c4, c5, c6, c7, c8, c9, hP, hD, hS, c13, c14, c15⟩
theorem n_return (u : Nat → Nat) (perm : List Nat) (hd : Dec m pc .return_ 1) (hr : Mr m = none) (hn : va_nd perm = true) (hp : perm.map (fun i => ws[i]?) = (w1 u).map some) : NJ cA D m mc ms w1 pc lv [] ws mc ms := by
  intro p l e s mid args below meth c H locs ls A C
  obtain ⟨c1, c2, c3, c4, c5, c6, c7, c8, c9, c10, c11, c12, c13, c14, c15⟩ := C
  have hq : perm.filterMap (fun i => ws[i]?) = w1 u := by
    have h1 : perm.filterMap (fun i => ws[i]?) = (perm.map (fun i => ws[i]?)).filterMap id := by rw [List.filterMap_map]; rfl
    rw [h1, hp, List.filterMap_map]
    exact List.filterMap_some
  have hP := c10.sub perm hq
  have hD := c11.sub perm hn hp
  exact W.vret c1 c2 (c4.trans hr) (fun t ht hW => ⟨⟨u, rfl, trivial, by rw [ht]; exact hP, hD⟩, c12.F ht⟩) c12.2.2 hd c5
end NJR
