/-! ===== constructors: calls, loops, contracts ===== -/
theorem w_join {A0 : Nat → Prop} {D : va_G} {cl : List vw_C} {u1 u2 w1 : va_W} {x : Nat × va_E} {H H1 : Heap} (hP : va_P D cl (u1 ++ x :: u2) H) (hD : va_D A0 (u1 ++ x :: u2)) (hk : ∀ q : Nat, q < H.size → ¬ va_A [x] H.size q → H1[q]? = H[q]?) (hF : ∀ q, va_A [x] H.size q → A0 q) (hP1 : va_P D cl w1 H1) (hD1 : va_D (va_A [x] H.size) w1) : va_P D cl (u1 ++ u2 ++ w1) H1 ∧ va_D A0 (u1 ++ u2 ++ w1) := by
  have idx : ∀ k : Nat, ∃ g : Nat, (u1 ++ u2)[k]? = (u1 ++ x :: u2)[g]? ∧ ((k < u1.length ∧ g = k) ∨ (u1.length ≤ k ∧ g = k + 1)) := fun k => by
    by_cases h : k < u1.length
    · exact ⟨k, by rw [List.getElem?_append_left h, List.getElem?_append_left h], Or.inl ⟨h, rfl⟩⟩
    · refine ⟨k + 1, ?_, Or.inr ⟨by omega, rfl⟩⟩
      rw [List.getElem?_append_right (by omega), List.getElem?_append_right (by omega), show k + 1 - u1.length = (k - u1.length) + 1 by omega, List.getElem?_cons_succ]
  have hx : (u1 ++ x :: u2)[u1.length]? = some x := by
    rw [List.getElem?_append_right (Nat.le_refl _), Nat.sub_self]; rfl
  have apart : ∀ (k : Nat) (q : Nat × va_E), (u1 ++ u2)[k]? = some q → q.1 < H.size ∧ ¬ va_A [x] H.size q.1 := fun k q h => by
    obtain ⟨g, e, c⟩ := idx k
    rw [e] at h
    have hl := (hP g q h).lt
    refine ⟨hl, fun z => ?_⟩
    rcases z with ⟨j, e2, z⟩ | z
    · have hj : j < 1 := (List.getElem?_eq_some_iff.mp z).1
      rw [show j = 0 by omega] at z
      have z : x = (q.1, e2) := Option.some.inj z
      have := hD.1 g u1.length q x h hx (by rw [z])
      omega
    · omega
  have hPl : va_P D cl (u1 ++ u2) H1 := fun k q h => by
    have a := apart k q h
    obtain ⟨g, e, c⟩ := idx k
    rw [e] at h
    exact (hP g q h).kept (hk q.1 a.1 a.2)
  refine ⟨hPl.app hP1, fun i j p q hi hj e => ?_, fun k q h => ?_⟩
  · by_cases h1 : i < (u1 ++ u2).length
    · rw [List.getElem?_append_left h1] at hi
      by_cases h2 : j < (u1 ++ u2).length
      · rw [List.getElem?_append_left h2] at hj
        obtain ⟨g1, e1, c1⟩ := idx i
        obtain ⟨g2, e2, c2⟩ := idx j
        rw [e1] at hi
        rw [e2] at hj
        have := hD.1 g1 g2 p q hi hj e
        omega
      · rw [List.getElem?_append_right (by omega)] at hj
        exact absurd (by rw [e]; exact hD1.2 _ q hj) (apart i p hi).2
    · rw [List.getElem?_append_right (by omega)] at hi
      by_cases h2 : j < (u1 ++ u2).length
      · rw [List.getElem?_append_left h2] at hj
        exact absurd (by rw [← e]; exact hD1.2 _ p hi) (apart j q hj).2
      · rw [List.getElem?_append_right (by omega)] at hj
        have := hD1.1 _ _ p q hi hj e
        omega
  · by_cases h1 : k < (u1 ++ u2).length
    · rw [List.getElem?_append_left h1] at h
      obtain ⟨g, e, c⟩ := idx k
      rw [e] at h
      exact hD.2 g q h
    · rw [List.getElem?_append_right (by omega)] at h
      exact hF _ (hD1.2 _ q h)
def NPre (cA : Nat → ClassId) (D : va_G) (sz : Nat) (x : Nat × va_E) (U : State) : Prop := U.heap.size = sz ∧ va_P D vwCl [x] U.heap ∧ va_K D vwCl (tysOf cA) U ∧ Nst U ∧ Mst U
def NM (cA : Nat → ClassId) (D : va_G) (m : Mt) (As : List Value) (x : Nat × va_E) (mc ms : Nat) (w1 : (Nat → Nat) → va_W) : Prop := ∀ (l : Launch) (sz : Nat), Met l (My m) (wsM m) (rmN m mc ms) (va_Pc (.ref x.1 :: As) (NPre cA D sz x)) (NQ D w1 (va_A [x] sz)) mc ms (va_A [x] sz)
theorem blind_NPre (av : List Value) (cA : Nat → ClassId) (D : va_G) (sz : Nat) (x : Nat × va_E) : FrameBlind (va_Pc av (NPre cA D sz x)) := fun a U g mk q => by
  obtain ⟨q0, qz, qP, qK, qN, qM⟩ := q
  exact ⟨q0, qz, qP, va_K.moved (u := U) (U := U.calling g mk a) (Vm.Alike.refl U.vm) qK, fun w hw hn => va_Nw.same (u := U) (U := U.calling g mk a) (by obtain ⟨_, _, _, _, _, _, rfl⟩ := nestF_cases hn; rfl) rfl (qN w hw hn), va_Nw.same (u := U) (U := U.calling g mk a) rfl rfl qM.1, va_Nw.same (u := U) (U := U.calling g mk a) rfl rfl qM.2⟩
section NJC
variable {cA : Nat → ClassId} {D : va_G} {m : Mt} {mc ms : Nat} {w1 : (Nat → Nat) → va_W} {pc p2 : Nat} {lv lv' : List (Nat × Value)} {st : List Value} {ws : va_W} {k n : Nat}
theorem NJ.met {x : Nat × va_E} {As : List Value} {np : Nat} (hok : Mok m np) (hin : (My m).name = "<init>") (hlen : (lg_sl (.ref x.1 :: As)).length ≤ Mn m) (hlv : lv_args 0 (.ref x.1 :: As) = lv) (h : NJ cA D m mc ms w1 0 lv [] [x] 0 0) : NM cA D m As x mc ms w1 := by
  intro l sz
  refine Met.ofWF (cc := Mc m) (maxL := Mn m) (ret := Mr m) hok.2.2.2.1 rfl ?_
  intro p e s mid args below meth c s₁ B hml hv
  obtain ⟨rfl, hsz, hP, hK, hN, hMs⟩ := hv
  have hts := atoms_spec (ws := wsM m) B.pre
  have hown : s.vm.findClass (Mo m) = some mid.cls := by rw [hok.2.2.2.2]; exact findClass_of_methodNamed B.named
  have hnm : meth.name = "<init>" := (name_of_methodNamed B.named B.method).1.trans hin
  have hl := lv_entry (.ref x.1 :: As) (n := Mn m) hlen
  rw [hlv] at hl
  rw [lg_entry_eq]
  have hD : va_D (va_A [x] sz) [x] := ⟨fun i j p q hi hj _ => by
    have h1 : i < 1 := (List.getElem?_eq_some_iff.mp hi).1
    have h2 : j < 1 := (List.getElem?_eq_some_iff.mp hj).1
    omega, fun k q hq => va_A.in hq⟩
  subst hsz
  exact h p l e s mid _ below meth c s.heap [] _ (va_A [x] s.heap.size) ⟨B.exec, B.bytes, hml, B.returns, B.notSynchronized, hown, tW_of (fun w hw => hts w (List.mem_cons_of_mem _ hw)) hN, hnm, hK, hP, hD, va_S.rf, fun q h => Or.inr h, hl, hMs⟩
theorem n_behind {p : Program} {l : Launch} {e : Env} {s : State} {mid : MethodId} {args : Array Value} {below : List Frame} {meth : Method} {c : Code} {H : Heap} {locs : List Loc} {ls : Array Slot} {A : Nat → Prop} {w0 : Nat × va_E} {as0 u2 : va_W} {x : Nat × va_E} {mc' ms' : Nat} {w' : (Nat → Nat) → va_W} {st0 : List Value} {a : Array Value} (C : Nxc cA D m lv (w0 :: (as0 ++ x :: u2)) p s mid args meth c H locs ls A) (hr : va_Run p l e (rmN m mc ms) s mid args below meth c H locs k n mc' ms' (F0 mid pc ls st0) st (NQ D w' (va_A [x] H.size) a) (va_A [x] H.size)) (kk : ∀ u : Nat → Nat, NJ cA D m mc ms w1 (pc + 3) lv st (w0 :: (as0 ++ u2 ++ w' u)) (k + mc') (n + ms')) : W p l e (rmN m mc ms) s mid args below meth c H locs k n (MQ below (NQ D w1 A) args s mc ms A) (F0 mid pc ls st0) := by
  obtain ⟨c1, c2, c3, c4, c5, c6, c7, c8, c9, c10, c11, c12, c13, c14, c15⟩ := C
  have hx : (w0 :: (as0 ++ x :: u2))[as0.length + 1]? = some x := by
    rw [List.getElem?_cons_succ, List.getElem?_append_right (Nat.le_refl _), Nat.sub_self]; rfl
  have hF : ∀ q : Nat, va_A [x] H.size q → A q := fun q z => by
    rcases z with ⟨j, e2, z⟩ | z
    · have hj : j < 1 := (List.getElem?_eq_some_iff.mp z).1
      rw [show j = 0 by omega] at z
      have z : x = (q, e2) := Option.some.inj z
      have := c11.2 _ x hx
      rw [z] at this
      exact this
    · exact c13 q (Nat.le_trans c12.1 z)
  refine va_callv hr c12 (fun q _ h => hF q h) hF (fun u t H1 locs1 ht hvm _ hB hz1 hk1 hS => ?_)
  obtain ⟨hP1, hD1⟩ := hB
  rw [ht] at hP1
  obtain ⟨hP', hD'⟩ := w_join (u1 := w0 :: as0) c10 c11 hk1 hF hP1 hD1
  exact kk u p l e s mid args below meth c H1 locs1 ls A ⟨c1, c2, c3, c4, c5, c6, c7, c8, c9, hP', hD', hS, c13, c14, c15⟩
theorem npre_at {p : Program} {s : State} {mid : MethodId} {args : Array Value} {meth : Method} {c : Code} {H : Heap} {locs : List Loc} {ls : Array Slot} {A : Nat → Prop} {w0 : Nat × va_E} {as0 u2 : va_W} {x : Nat × va_E} (C : Nxc cA D m lv (w0 :: (as0 ++ x :: u2)) p s mid args meth c H locs ls A) (U : State) (hU : U.heap = H) (hW : s.WarmedH U.vm) : NPre cA D H.size x U := by
  obtain ⟨c1, c2, c3, c4, c5, c6, c7, c8, c9, c10, c11, c12, c13, c14, c15⟩ := C
  refine ⟨by rw [hU], ?_, va_K.moved hW.alike c9, (Nst.of c7).moved hW, c15.moved hW⟩
  rw [hU]
  intro j q hq
  have hj : j < 1 := (List.getElem?_eq_some_iff.mp hq).1
  rw [show j = 0 by omega] at hq
  have hq : x = q := Option.some.inj hq
  rw [← hq]
  exact c10 (as0.length + 1) x (by rw [List.getElem?_cons_succ, List.getElem?_append_right (Nat.le_refl _), Nat.sub_self]; rfl)
theorem n_callI {m' : Mt} {idx np q mc' ms' : Nat} {ob : va_E} {As stk : List Value} {w' : (Nat → Nat) → va_W} {w0 : Nat × va_E} {as0 u2 : va_W} (hM : NM cA D m' As (q, ob) mc' ms' w') (hd : Dec m pc (.invokespecial idx) 3) (hp : pc + 3 = p2) (hl : Cond.methodLink (Mo m) idx (My m') ∈ tW) (hok : Mok m' np) (hr : Mr m' = none) (hin : Cond.instanceMethod (My m') ∈ tW) (hnm : (My m').name = "<init>") (hn : As.length = np) (hs : stk = As.reverse ++ .ref q :: st) (hw : ws = w0 :: (as0 ++ (q, ob) :: u2)) (hsum : (st.map fun v => v.category).sum ≤ 8) (hc : k + mc' ≤ mc) (hss : n + ms' ≤ ms) (hR : Mf m' + 1 ≤ Mf m ∧ 8 + (Mn m' + 11) + Ml m' ≤ Ml m) (kk : ∀ u : Nat → Nat, NJ cA D m mc ms w1 p2 lv st (w0 :: (as0 ++ u2 ++ w' u)) (k + mc') (n + ms')) : NJ cA D m mc ms w1 pc lv stk ws k n := by
  subst hp
  subst hs
  subst hw
  intro p l e s mid args below meth c H locs ls A C
  have C0 := C
  obtain ⟨c1, c2, c3, c4, c5, c6, c7, c8, c9, c10, c11, c12, c13, c14, c15⟩ := C
  refine n_behind (a := (Value.ref q :: As).toArray) C0 ?_ kk
  refine va_runI (Ts := tW) (own := Mo m) (y := My m') (bytes := Mc m') (maxL := Mn m') (n := np) (As := As) (b := q) (nL := Mn m) ⟨c1, c2, c3, c6, c7⟩ (hM l H.size) ⟨callB_of np c7 (wsM_good hok) (by unfold wsM; rw [hr]) rfl rfl (c7 _ hok.2.1) (c7 _ hl) hok.2.2.1 hR, hnm, c7 _ hin⟩ ⟨blind_NPre _ cA D H.size (q, ob), fun U hU hW => ⟨rfl, npre_at C0 U hU hW⟩⟩ rfl hn c14.1 rfl (lv_room hsum) hd ⟨hc, hss⟩
theorem n_callN {m' : Mt} {idx np q mc' ms' : Nat} {host : String} {ob : va_E} {As stk : List Value} {w' : (Nat → Nat) → va_W} {w0 : Nat × va_E} {as0 u2 : va_W} (hM : NM cA D m' As (q, ob) mc' ms' w') (hd : Dec m pc (.invokespecial idx) 3) (hp : pc + 3 = p2) (hl : ∀ s, Mst s → va_Nw (.methodLinkNest (Mo m) idx (My m') host) s) (hok : Mok m' np) (hr : Mr m' = none) (hin : Cond.instanceMethod (My m') ∈ tW) (hnm : (My m').name = "<init>") (hn : As.length = np) (hs : stk = As.reverse ++ .ref q :: st) (hw : ws = w0 :: (as0 ++ (q, ob) :: u2)) (hsum : (st.map fun v => v.category).sum ≤ 8) (hc : k + mc' ≤ mc) (hss : n + ms' ≤ ms) (hR : Mf m' + 1 ≤ Mf m ∧ 8 + (Mn m' + 11) + Ml m' ≤ Ml m) (kk : ∀ u : Nat → Nat, NJ cA D m mc ms w1 p2 lv st (w0 :: (as0 ++ u2 ++ w' u)) (k + mc') (n + ms')) : NJ cA D m mc ms w1 pc lv stk ws k n := by
  subst hp
  subst hs
  subst hw
  intro p l e s mid args below meth c H locs ls A C
  have C0 := C
  obtain ⟨c1, c2, c3, c4, c5, c6, c7, c8, c9, c10, c11, c12, c13, c14, c15⟩ := C
  refine n_behind (a := (Value.ref q :: As).toArray) C0 ?_ kk
  refine va_runIN (Ts := tW) (own := Mo m) (host := host) (y := My m') (bytes := Mc m') (maxL := Mn m') (n := np) (As := As) (b := q) (nL := Mn m) ⟨c1, c2, c3, c6, c7⟩ (hM l H.size) ⟨va_cnB np c7 (wsM_good hok) (by unfold wsM; rw [hr]) rfl rfl (hl s c15) (c7 _ hok.2.1) hok.2.2.1 hR, hnm, c7 _ hin⟩ ⟨blind_NPre _ cA D H.size (q, ob), fun U hU hW => ⟨rfl, npre_at C0 U hU hW⟩⟩ rfl hn c14.1 rfl (lv_room hsum) hd ⟨hc, hss⟩
end NJC
