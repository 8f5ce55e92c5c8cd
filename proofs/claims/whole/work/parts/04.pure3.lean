/-! ===== calls ===== -/
def entL : Nat → List PV → List (Nat × PV)
  | _, [] => []
  | i, v :: vs => (i, v) :: entL (match Nat.beq (pcat v) 2 with | true => i + 2 | false => i + 1) vs
theorem entL_args (ad : Nat → Nat) : ∀ (vs : List PV) (i : Nat), lv_args i (vs.map (rv ad)) = lvR ad (entL i vs)
  | [], _ => rfl
  | v :: vs, i => by
    have h : (if (rv ad v).category = 2 then i + 2 else i + 1) = (match Nat.beq (pcat v) 2 with | true => i + 2 | false => i + 1) := by
      rw [pcat_rv]
      rcases v with x | x | x | x | x <;> rfl
    show (i, rv ad v) :: lv_args _ _ = _
    rw [h, entL_args ad vs]
    rfl
/-- the method, called with these arguments in this heap, returns, and Q holds of its answer and the heap then -/
def Sp (m : Mt) (args : List PV) (σ : Hp) (Q : Option PV → Hp → Prop) : Prop := J m 0 (entL 0 args) [] σ Q
theorem Sp.mono {m : Mt} {args : List PV} {σ : Hp} {Q Q2 : Option PV → Hp → Prop} (k : Sp m args σ Q) (h : ∀ r σ, Q r σ → Q2 r σ) : Sp m args σ Q2 := J.mono k h
def slotsOf (vs : List PV) : Nat := (vs.map pcat).sum
theorem sl_len (ad : Nat → Nat) : ∀ vs : List PV, (lg_sl (vs.map (rv ad))).length = slotsOf vs
  | [] => rfl
  | v :: vs => by
    have ih := sl_len ad vs
    unfold lg_sl at ih ⊢
    rw [List.map_cons, List.flatMap_cons, List.length_append, ih]
    unfold slotsOf
    rw [List.map_cons, List.sum_cons, pcat_rv]
    rcases v with x | x | x | x | x <;> rfl
def wsM (m : Mt) : List Cond := Cond.code (My m) (Mc m) (Mn m) (Mr m) :: tG
/-- what the tables say of a method with n parameters -/
def Mok (m : Mt) (n : Nat) : Prop := Cond.code (My m) (Mc m) (Mn m) (Mr m) ∈ tW ∧ Cond.initialized (My m).cls ∈ tW ∧ ((My m).cls ≠ "java/lang/invoke/MethodHandle" ∧ (My m).cls ≠ "java/lang/invoke/VarHandle" ∧ (parseMethodDescriptor (My m).desc).map (fun d => d.parameters.length) = some n) ∧ plainFor (My m) = true ∧ Mo m = (My m).cls
theorem tG_tW {w : Cond} (h : w ∈ tG) : w ∈ tW := List.mem_filter.mpr ⟨(List.mem_filter.mp h).1, by rw [(List.mem_filter.mp h).2]; rfl⟩
theorem tG_good {w : Cond} (h : w ∈ tG) : (w.onTables && w.keeps) = true ∨ ∃ ty, w = .arrayClass ty := good_of_word (List.mem_filter.mp h).2
theorem wsM_good {m : Mt} {n : Nat} (h : Mok m n) : GoodIn tW (wsM m) := fun w hw => by
  rcases List.mem_cons.mp hw with e | e
  · rw [e]; exact ⟨h.1, Or.inl rfl⟩
  · exact ⟨tG_tW e, tG_good e⟩
def Nst (U : State) : Prop := ∀ w ∈ lw_tbl, isNestF w = true → va_Nw w U
theorem nestF_cases {w : Cond} (h : isNestF w = true) : ∃ a i b n d x, w = .fieldLinkNest a i b n d x := by
  cases w <;> first | exact ⟨_, _, _, _, _, _, rfl⟩ | cases h
theorem Nst.moved {s U : State} (hW : s.WarmedH U.vm) (h : Nst s) : Nst U := fun w hw hn => by
  have h1 := h w hw hn
  obtain ⟨a, i, b, n, d, x, rfl⟩ := nestF_cases hn
  exact va_Nw.warmF hW h1
theorem Nst.of {s : State} {args : Array Value} (h : ∀ w ∈ tW, w.before args s = true) : Nst s := fun w hw hn => by
  have h1 := h w (List.mem_filter.mpr ⟨hw, by rw [hn, Bool.or_true]⟩)
  obtain ⟨a, i, b, n, d, x, rfl⟩ := nestF_cases hn
  exact va_Nw.of rfl h1
theorem tW_of {s : State} {args : Array Value} (h : ∀ w ∈ tG, w.before args s = true) (hN : Nst s) : ∀ w ∈ tW, w.before args s = true := fun w hw => by
  have h2 := (List.mem_filter.mp hw)
  by_cases hg : goodWord w = true
  · exact h w (List.mem_filter.mpr ⟨h2.1, hg⟩)
  · have hn : isNestF w = true := by
      have := h2.2
      rw [Bool.or_eq_true] at this
      exact this.resolve_left hg
    have h1 := hN w h2.1 hn
    obtain ⟨a, i, b, n, d, x, rfl⟩ := nestF_cases hn
    exact va_Nw.use rfl h1
theorem Sta.moved {ad : Nat → Nat} {u U : State} {H : Heap} (hvm : u.vm.Alike U.vm) (h : Sta ad u H) : Sta ad U H := ⟨h.1.moved hvm, h.2.moved hvm⟩
theorem Sta.kept {ad : Nat → Nat} {U : State} {H H1 : Heap} (h : Sta ad U H) (hq : ∀ a : Nat, a < H.size → ¬ Aw ad a → H1[a]? = H[a]?) : Sta ad U H1 := ⟨h.1.kept hq, h.2.kept hq⟩
def Pre0 (ad : Nat → Nat) (cA : Nat → ClassId) (D : va_G) (σ : Hp) (U : State) : Prop := va_P D vwCl (wsOf ad cA σ) U.heap ∧ va_K D vwCl (tysOf cA) U ∧ Adj ad ∧ Sta ad U U.heap ∧ Nst U
theorem Met.ofWF {l : Launch} {y : MethodName} {ws ws' : List Cond} {rm : Room} {Pc : Array Value → State → Prop} {Qc : Array Value → State → Outcome → State → Prop} {mc ms : Nat} {free : Addr → Prop} {cc : ByteArray} {maxL : Nat} {ret : Option FieldType}
    (hy : plainFor y = true) (hw : ws = Cond.code y cc maxL ret :: ws')
    (body : ∀ p e s m args below meth c s₁, BodyLoose p l y (headSpec ws rm) cc maxL ret e s m args below meth c s₁ → c.maxLocals = maxL → Pc args s →
      W p l e (headSpec ws rm).room s m args below meth c s.heap [] 0 0 (MQ below Qc args s mc ms free) (entryFrame m args maxL)) : Met l y ws rm Pc Qc mc ms free := by
  refine MetFree.of_bodySF (code := cc) (maxLocals := maxL) (ret := ret) hy ?_ ?_
  · intro args s m h hn
    obtain ⟨meth, c, h1, h2, h3, h4, h5, h6, -, -⟩ := Cond.code_spec hn (atoms_spec (ws := ws) h _ (by rw [hw]; exact List.mem_cons_self))
    exact ⟨meth, c, h1, h2, h3, h4, h5, h6⟩
  · intro p e s m args below meth c s₁ B hml hP _
    have hh0 : s₁.heap = s.heap := by rw [B.state]; rfl
    obtain ⟨t, a1, o, b1, b2, b3⟩ := body p e s m args below meth c s₁ B hml hP s₁ hh0 (Stand.of_body B)
    exact ⟨t, o, a1, b1, b2, ⟨b3.1, b3.2⟩⟩
theorem Sp.met {m : Mt} {As : List PV} {σ : Hp} {Q : Option PV → Hp → Prop} {n : Nat} (h : Sp m As σ Q) (hok : Mok m n) (hlen : slotsOf As ≤ Mn m) (l : Launch) (ad : Nat → Nat) (cA : Nat → ClassId) (D : va_G) : Met l (My m) (wsM m) (rmOf m) (va_Pc (As.map (rv ad)) (Pre0 ad cA D σ)) (Qcc ad cA D Q) 0 0 (Aw ad) := by
  refine Met.ofWF (cc := Mc m) (maxL := Mn m) (ret := Mr m) hok.2.2.2.1 rfl ?_
  intro p e s mid args below meth c s₁ B hml hv
  obtain ⟨rfl, hP, hK, hA, hSt, hN⟩ := hv
  have hts := atoms_spec (ws := wsM m) B.pre
  have hown : s.vm.findClass (Mo m) = some mid.cls := by rw [hok.2.2.2.2]; exact findClass_of_methodNamed B.named
  have hl := lv_entry (As.map (rv ad)) (n := Mn m) (by rw [sl_len]; exact hlen)
  rw [entL_args] at hl
  rw [lg_entry_eq]
  exact h p l e s mid _ below meth c s.heap [] _ ad cA D ⟨B.exec, B.bytes, hml, B.returns, B.notSynchronized, hown, tW_of (fun w hw => hts w (List.mem_cons_of_mem _ hw)) hN, hK, hA, hSt, hP, va_S.rf, hl⟩
theorem blind_Pre0 (av : List Value) (ad : Nat → Nat) (cA : Nat → ClassId) (D : va_G) (σ : Hp) : FrameBlind (va_Pc av (Pre0 ad cA D σ)) := fun a U g mk q => by
  obtain ⟨q0, qP, qK, qA, qS, qN⟩ := q
  exact ⟨q0, qP, va_K.moved (u := U) (U := U.calling g mk a) (Vm.Alike.refl U.vm) qK, qA, Sta.moved (u := U) (U := U.calling g mk a) (Vm.Alike.refl U.vm) qS, fun w hw hn => va_Nw.same (u := U) (U := U.calling g mk a) (by obtain ⟨_, _, _, _, _, _, rfl⟩ := nestF_cases hn; rfl) rfl (qN w hw hn)⟩
theorem pre0_at {m : Mt} {lv : List (Nat × PV)} {σ : Hp} {p : Program} {s : State} {mid : MethodId} {args : Array Value} {meth : Method} {c : Code} {H : Heap} {locs : List Loc} {ls : Array Slot} {ad : Nat → Nat} {cA : Nat → ClassId} {D : va_G} (C : Cx m lv σ p s mid args meth c H locs ls ad cA D) (U : State) (hU : U.heap = H) (hW : s.WarmedH U.vm) : Pre0 ad cA D σ U := by
  obtain ⟨c1, c2, c3, c4, c5, c6, c7, c8, c9, c10, c11, c12, c13⟩ := C
  refine ⟨by rw [hU]; exact c11, va_K.moved hW.alike c8, c9, ?_, (Nst.of c7).moved hW⟩
  rw [hU]
  exact (c10.kept c12.2.1).moved hW.alike
/-- behind a call -/
theorem J_behind {m : Mt} {pc : Nat} {lv : List (Nat × PV)} {st : List PV} {σ : Hp} {Q : Option PV → Hp → Prop} {p : Program} {l : Launch} {e : Env} {s : State} {mid : MethodId} {args : Array Value} {below : List Frame} {meth : Method} {c : Code} {H : Heap} {locs : List Loc} {ls : Array Slot} {ad : Nat → Nat} {cA : Nat → ClassId} {D : va_G} {st0 : List Value} {a : Array Value} (C : Cx m lv σ p s mid args meth c H locs ls ad cA D)
    (hr : va_Run p l e (rmOf m) s mid args below meth c H locs 0 0 0 0 (F0 mid pc ls st0) (st.map (rv ad)) (Qcc ad cA D (fun r σ' => J m (pc + 3) lv (r.toList ++ st) σ' Q) a) (Aw ad)) :
    W p l e (rmOf m) s mid args below meth c H locs 0 0 (MQ below (Qcc ad cA D Q) args s 0 0 (Aw ad)) (F0 mid pc ls st0) := by
  have C0 := C
  obtain ⟨c1, c2, c3, c4, c5, c6, c7, c8, c9, c10, c11, c12, c13⟩ := C
  intro T hT X
  obtain ⟨v, st₀, t, T', L, h0, X', hL, e1, e2, ⟨⟨r, σ', hv, hq, hP⟩, hz, hk⟩, go⟩ := hr T hT X
  have hvr : v = r.map (rv ad) := by injection hv
  rw [h0] at hz hk
  have hS : va_S (Aw ad) s.heap T'.heap (locs ++ L) := ⟨Nat.le_trans c12.1 (by rw [e1]; exact hz), fun q h1 h2 => by rw [e1, hk q (Nat.lt_of_lt_of_le h1 c12.1) h2]; exact c12.2.1 q h1 h2, fun q hq => by
      rcases List.mem_append.mp hq with h | h
      · exact c12.2.2 q h
      · exact hL q h⟩
  rw [← e1] at hP
  obtain ⟨t2, a1, b1⟩ := hq p l e s mid args below meth c T'.heap (locs ++ L) ls ad cA D (C0.set hP hS) T' rfl X'
  refine ⟨t2, go t2 ?_, b1⟩
  have hst : (r.toList ++ st).map (rv ad) = v.toList ++ st.map (rv ad) := by
    rw [hvr, List.map_append]
    cases r <;> rfl
  rw [hst] at a1
  exact a1
section JC
variable {m m' : Mt} {pc p2 idx n : Nat} {lv : List (Nat × PV)} {st stk : List PV} {σ : Hp} {Q : Option PV → Hp → Prop}
theorem st_sum (ad : Nat → Nat) (st : List PV) : ((st.map (rv ad)).map fun v => v.category).sum = slotsOf st := by
  unfold slotsOf
  rw [List.map_map]
  congr 1
  apply List.map_congr_left
  intro v _
  exact pcat_rv ad v
/-- call of an instance method of the receiver's own class -/
theorem j_callV {cc ci : Nat} {As : List PV} {fds : List (Nat × Nat)} (hd : Dec m pc (.invokevirtual idx) 3) (hp : pc + 3 = p2) (hl : Cond.methodLink (Mo m) idx (My m') ∈ tW) (hok : Mok m' n) (hin : Cond.instanceMethod (My m') ∈ tW) (hse : Cond.selects (My m').cls (My m') (My m') ∈ tW) (hn : As.length = n) (hs : stk = As.reverse ++ vR cc :: st) (hsum : slotsOf st ≤ 8) (hc : lay[cc]? = some (.inr (ci, fds))) (hci : (vwCl[ci]?).map (fun q => q.1) = some (My m').cls) (hlen : slotsOf (vR cc :: As) ≤ Mn m') (hR : Mf m' + 1 ≤ Mf m ∧ 8 + (Mn m' + 11) + Ml m' ≤ Ml m)
    (h : Sp m' (vR cc :: As) σ (fun r σ' => J m p2 lv (r.toList ++ st) σ' Q)) : J m pc lv stk σ Q := by
  subst hp
  subst hs
  intro p l e s mid args below meth c H locs ls ad cA D C
  have C0 := C
  obtain ⟨c1, c2, c3, c4, c5, c6, c7, c8, c9, c10, c11, c12, c13⟩ := C
  obtain ⟨q, hq1, hq2⟩ := Option.map_eq_some_iff.mp hci
  have hrecv := va_recv c8 c11 hq1 (ws_get hc)
  rw [hq2] at hrecv
  refine J_behind (st := st) (a := (Value.ref (ad cc) :: As.map (rv ad)).toArray) C0 ?_
  refine va_runV (Ts := tW) (own := Mo m) (C := (My m').cls) (y := My m') (bytes := Mc m') (maxL := Mn m') (ret := Mr m') (n := n) (As := As.map (rv ad)) (b := ad cc) (nL := Mn m) ⟨c1, c2, c3, c6, c7⟩ (h.met hok hlen l ad cA D) ⟨callB_of n c7 (wsM_good hok) rfl rfl rfl (c7 _ hok.2.1) (c7 _ hl) hok.2.2.1 hR, c7 _ hin, c7 _ hse⟩ ⟨blind_Pre0 _ ad cA D σ, hrecv, fun U hU hW => ⟨rfl, pre0_at C0 U hU hW⟩⟩ rfl (by rw [List.length_map]; exact hn) c13.1 ?_ ?_ hd ⟨Nat.le_refl _, Nat.le_refl _⟩
  · show List.map (rv ad) (As.reverse ++ vR cc :: st) = _
    rw [List.map_append, List.map_reverse]; rfl
  · refine lv_room ?_
    rw [st_sum]; exact hsum
theorem j_callS {As : List PV} (hd : Dec m pc (.invokestatic idx) 3) (hp : pc + 3 = p2) (hl : Cond.methodLink (Mo m) idx (My m') ∈ tW) (hok : Mok m' n) (hin : Cond.static (My m') ∈ tW) (hn : As.length = n) (hs : stk = As.reverse ++ st) (hsum : slotsOf st ≤ 8) (hlen : slotsOf As ≤ Mn m') (hR : Mf m' + 1 ≤ Mf m ∧ 8 + (Mn m' + 11) + Ml m' ≤ Ml m)
    (h : Sp m' As σ (fun r σ' => J m p2 lv (r.toList ++ st) σ' Q)) : J m pc lv stk σ Q := by
  subst hp
  subst hs
  intro p l e s mid args below meth c H locs ls ad cA D C
  have C0 := C
  obtain ⟨c1, c2, c3, c4, c5, c6, c7, c8, c9, c10, c11, c12, c13⟩ := C
  refine J_behind (st := st) (a := (As.map (rv ad)).toArray) C0 ?_
  refine va_runS (Ts := tW) (own := Mo m) (y := My m') (bytes := Mc m') (maxL := Mn m') (ret := Mr m') (n := n) (As := As.map (rv ad)) (nL := Mn m) ⟨c1, c2, c3, c6, c7⟩ (h.met hok hlen l ad cA D) ⟨callB_of n c7 (wsM_good hok) rfl rfl rfl (c7 _ hok.2.1) (c7 _ hl) hok.2.2.1 hR, c7 _ hin⟩ ⟨blind_Pre0 _ ad cA D σ, fun U hU hW => ⟨rfl, pre0_at C0 U hU hW⟩⟩ rfl (by rw [List.length_map]; exact hn) c13.1 ?_ ?_ hd ⟨Nat.le_refl _, Nat.le_refl _⟩
  · show List.map (rv ad) (As.reverse ++ st) = _
    rw [List.map_append, List.map_reverse]
  · refine lv_room ?_
    rw [st_sum]; exact hsum
/-- the natives -/
theorem j_rawD {x : UInt64} (hd : Dec m pc (.invokestatic idx) 3) (hp : pc + 3 = p2) (hl : Cond.methodLink (Mo m) idx ⟨"java/lang/Double", "doubleToRawLongBits", "(D)J"⟩ ∈ tW) (hF : 1 ≤ Mf m) (hR : slotsOf st + 15 ≤ Ml m) (k : J m p2 lv (vL x.toInt64 :: st) σ Q) : J m pc lv (vD x :: st) σ Q := by
  subst hp
  refine J.go (fun p l e s mid args below meth c H locs ls ad cA D QQ C w => ?_) k
  obtain ⟨c1, c2, c3, c4, c5, c6, c7, c8, c9, c10, c11, c12, c13⟩ := C
  exact vn_d2l c1 c2 (c3.trans c13.1.symm) c6 (c7 _ hl) (c7 _ (by decide +kernel)) (c7 _ (by decide +kernel)) (c7 _ (by decide +kernel)) hF (by rw [st_sum]; exact hR) hd w
theorem j_ofBits {x : Int64} (hd : Dec m pc (.invokestatic idx) 3) (hp : pc + 3 = p2) (hl : Cond.methodLink (Mo m) idx ⟨"java/lang/Double", "longBitsToDouble", "(J)D"⟩ ∈ tW) (hF : 1 ≤ Mf m) (hR : slotsOf st + 15 ≤ Ml m) (hv : vn_snl2d x = false) (k : J m p2 lv (vD x.toUInt64 :: st) σ Q) : J m pc lv (vL x :: st) σ Q := by
  subst hp
  refine J.go (fun p l e s mid args below meth c H locs ls ad cA D QQ C w => ?_) k
  obtain ⟨c1, c2, c3, c4, c5, c6, c7, c8, c9, c10, c11, c12, c13⟩ := C
  exact vn_l2d c1 c2 (c3.trans c13.1.symm) c6 (c7 _ hl) (c7 _ (by decide +kernel)) (c7 _ (by decide +kernel)) (c7 _ (by decide +kernel)) hv hF (by rw [st_sum]; exact hR) hd w
theorem j_rawF {x : UInt32} (hd : Dec m pc (.invokestatic idx) 3) (hp : pc + 3 = p2) (hl : Cond.methodLink (Mo m) idx ⟨"java/lang/Float", "floatToRawIntBits", "(F)I"⟩ ∈ tW) (hF : 1 ≤ Mf m) (hR : slotsOf st + 15 ≤ Ml m) (k : J m p2 lv (vI x.toInt32.toInt :: st) σ Q) : J m pc lv (vF x :: st) σ Q := by
  subst hp
  refine J.go (fun p l e s mid args below meth c H locs ls ad cA D QQ C w => ?_) k
  obtain ⟨c1, c2, c3, c4, c5, c6, c7, c8, c9, c10, c11, c12, c13⟩ := C
  exact vn_f2i c1 c2 (c3.trans c13.1.symm) c6 (c7 _ hl) (c7 _ (by decide +kernel)) (c7 _ (by decide +kernel)) (c7 _ (by decide +kernel)) hF (by rw [st_sum]; show _ ≤ Ml m; omega) hd (by have h : x.toInt32 = iw x.toInt32.toInt := (iw_of _).symm; rw [h]; exact w)
theorem j_copyD {a b na nb : Nat} {k : Int} (hd : Dec m pc (.invokestatic idx) 3) (hp : pc + 3 = p2) (hl : Cond.methodLink (Mo m) idx arraycopyName ∈ tW) (hF : 1 ≤ Mf m) (hR : slotsOf st + 23 ≤ Ml m) (ha : lay[a]? = some (.inl (4, na))) (hb : lay[b]? = some (.inl (4, nb))) (h0 : 0 ≤ k) (h1 : k ≤ na) (h2 : k ≤ nb) (hna : na ≤ 1000) (kk : J m p2 lv st (cD σ a b k) Q) : J m pc lv (vI k :: vI 0 :: vR b :: vI 0 :: vR a :: st) σ Q := by
  subst hp
  intro p l e s mid args below meth c H locs ls ad cA D C
  have C0 := C
  obtain ⟨c1, c2, c3, c4, c5, c6, c7, c8, c9, c10, c11, c12, c13⟩ := C
  have hz : iw 0 = 0 := rfl
  have hzc : (iw 0).toNatClampNeg = 0 := rfl
  have hk : (iw k).toNatClampNeg = k.toNat := iw_clamp h0 (by omega)
  have hk0 : ¬ iw k < 0 := by rw [← iw_0, iw_lt ⟨by omega, by omega⟩ ⟨by omega, by omega⟩]; omega
  refine va_copyd c1 c2 (c3.trans c13.1.symm) c6 (c7 _ hl) (c7 _ (by decide +kernel)) (c7 _ (by decide +kernel)) (c7 _ (by decide +kernel)) c8 c11 (ws_D c9 cA σ) c12 a b 4 4 (ws_get ha) (ws_get hb) rfl rfl rfl (by decide) (by decide) hk0 ?_ ?_ (fun _ _ => rfl) hF ?_ hd (fun H1 locs1 hP _ hS => ?_)
  · rw [hk, hzc]; show 0 + k.toNat ≤ na; omega
  · rw [hk, hzc]; show 0 + k.toNat ≤ nb; omega
  · rw [st_sum]
    have hw : nativeFrameWords "java/lang/System" "arraycopy" 5 + 11 ≤ 23 := by decide
    have : slotsOf st + (nativeFrameWords "java/lang/System" "arraycopy" 5 + 11) ≤ Ml m := by omega
    exact this
  · rw [ws_set (σ' := cD σ a b k) hb ?_ ho_cD] at hP
    · exact kk p l e s mid args below meth c H1 locs1 ls ad cA D (C0.set hP hS)
    · show _ = Sum.inl (av cA (cD σ a b k) b 4 nb)
      unfold av
      have e : (va_cpy (fun j => hD σ a j) (fun j => hD σ b j) (iw 0).toNatClampNeg (iw 0).toNatClampNeg (iw k).toNatClampNeg) = fun j : Nat => hD (cD σ a b k) b j := by
        funext j
        rw [hzc, hk]
        rw [hD_cD]
        by_cases hj : j < k.toNat
        · rw [pk_cpy_in (Nat.zero_le _) (by omega), if_pos ⟨rfl, by omega, by omega⟩]
          congr 1; omega
        · rw [pk_cpy_out (by omega), if_neg (by omega)]
      rw [e]
      rfl
/-- the static row NEEDED, and a place of it -/
theorem j_needed {own : String} (hm : Mo m = own) (hd : Dec m pc (.getstatic idx) 3) (hp : pc + 3 = p2) (hl : ∃ host, Cond.fieldLinkNest own idx "TwinPanel" "NEEDED" "[I" host ∈ tW) (k : J m p2 lv (vR 1000 :: st) σ Q) : J m pc lv st σ Q := by
  subst hp
  subst hm
  refine J.go (fun p l e s mid args below meth c H locs ls ad cA D QQ C w => ?_) k
  obtain ⟨c1, c2, c3, c4, c5, c6, c7, c8, c9, c10, c11, c12, c13⟩ := C
  obtain ⟨host, hl⟩ := hl
  exact va_getsN c1 c2 c10.1 c12 c6 (c7 _ hl) (fun _ h => h) hd w
theorem j_nald {i : Int} (hd : Dec m pc .iaload 1) (hp : pc + 1 = p2) (h0 : 0 ≤ i) (h1 : i < 14) (kk : J m p2 lv (vI (NEED i.toNat) :: st) σ Q) : J m pc lv (vI i :: vR 1000 :: st) σ Q := by
  subst hp
  refine J.go (fun p l e s mid args below meth c H locs ls ad cA D QQ C w => ?_) kk
  obtain ⟨c1, c2, c3, c4, c5, c6, c7, c8, c9, c10, c11, c12, c13⟩ := C
  refine va_ti c1 c2 c10.2 c12 (i := iw i) (iw_in h0 (by omega) (by omega)) (v := .int (iw (NEED i.toNat))) ?_ hd w
  show Value.int (iw (NEED (iw i).toNatClampNeg)) = _
  rw [iw_clamp h0 (by omega)]
end JC
