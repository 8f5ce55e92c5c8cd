/-! ===== the law, from its entry ===== -/
theorem kn_of {s : State} {args : Array Value} {ci N : Nat} {C : String} {T : u_T} {ty : Nat → FieldType} (hts : ∀ w ∈ tW, w.before args s = true) (hf : CF ci C T N ty) (hin : Cond.instantiable C N ∈ tW) : ∃ y : ClassId × (Nat → Nat), ∀ q : vw_C, vwCl[ci]? = some q → u_Kn s q.1 q.2.1 q.2.2 y.1 y.2 := by
  obtain ⟨cC, iS, h⟩ := u_known hts hf.2.1 (hts _ hin)
  refine ⟨(cC, iS), fun q hq => ?_⟩
  have e : (C, T, N) = q := Option.some.inj (hf.1.symm.trans hq)
  rw [← e]
  exact h
theorem kn_all {s : State} {args : Array Value} (hts : ∀ w ∈ tW, w.before args s = true) : ∃ D : va_G, ∀ (k : Nat) (q : vw_C), vwCl[k]? = some q → u_Kn s q.1 q.2.1 q.2.2 (D.1 k) (D.2 k) := by
  have h : ∀ k : Nat, ∃ y : ClassId × (Nat → Nat), ∀ q : vw_C, vwCl[k]? = some q → u_Kn s q.1 q.2.1 q.2.2 y.1 y.2 := fun k => by
    match k with
    | 0 => exact kn_of hts cf_0 (inW1 130 rfl rfl)
    | 1 => exact kn_of hts cf_1 (inW1 105 rfl rfl)
    | 2 => exact kn_of hts cf_2 (inW1 23 rfl rfl)
    | 3 => exact kn_of hts cf_3 (inW1 202 rfl rfl)
    | 4 => exact kn_of hts cf_4 (inW1 223 rfl rfl)
    | 5 => exact kn_of hts cf_5 (inW1 145 rfl rfl)
    | 6 => exact kn_of hts cf_6 (inW1 15 rfl rfl)
    | 7 => exact kn_of hts cf_7 (inW4 15 rfl rfl)
    | k + 8 =>
      obtain ⟨y, _⟩ := kn_of hts cf_0 (inW1 130 rfl rfl)
      exact ⟨y, fun q hq => by cases hq⟩
  exact ⟨(fun k => (Classical.choose (h k)).1, fun k => (Classical.choose (h k)).2), fun k q hq => Classical.choose_spec (h k) q hq⟩
theorem ar_0 {s : State} {args : Array Value} (hts : ∀ w ∈ tW, w.before args s = true) : ∃ c : ClassId, ArrOfT s c .int ∧ va_RA s c .int := by
  obtain ⟨cA, kA, comp, h1, h2, h3⟩ := Cond.arrayClass_spec (hts _ (inW1 100 rfl rfl : Cond.arrayClass .int ∈ tW))
  exact ⟨cA, fun n z => ⟨fun k h => (by cases h), kA, h2, comp, h3⟩, h1⟩
theorem ar_1 {s : State} {args : Array Value} (hts : ∀ w ∈ tW, w.before args s = true) : ∃ c : ClassId, ArrOfT s c .boolean ∧ va_RA s c .boolean := by
  obtain ⟨cA, kA, comp, h1, h2, h3⟩ := Cond.arrayClass_spec (hts _ (inW1 103 rfl rfl : Cond.arrayClass .boolean ∈ tW))
  exact ⟨cA, fun n z => ⟨fun k h => (by cases h), kA, h2, comp, h3⟩, h1⟩
theorem ar_2 {s : State} {args : Array Value} (hts : ∀ w ∈ tW, w.before args s = true) : ∃ c : ClassId, ArrOfT s c .long ∧ va_RA s c .long := by
  obtain ⟨cA, kA, comp, h1, h2, h3⟩ := Cond.arrayClass_spec (hts _ (inW1 101 rfl rfl : Cond.arrayClass .long ∈ tW))
  exact ⟨cA, fun n z => ⟨fun k h => (by cases h), kA, h2, comp, h3⟩, h1⟩
theorem ar_3 {s : State} {args : Array Value} (hts : ∀ w ∈ tW, w.before args s = true) : ∃ c : ClassId, ArrOfT s c .float ∧ va_RA s c .float := by
  obtain ⟨cA, kA, comp, h1, h2, h3⟩ := Cond.arrayClass_spec (hts _ (inW4 204 rfl rfl : Cond.arrayClass .float ∈ tW))
  exact ⟨cA, fun n z => ⟨fun k h => (by cases h), kA, h2, comp, h3⟩, h1⟩
theorem ar_4 {s : State} {args : Array Value} (hts : ∀ w ∈ tW, w.before args s = true) : ∃ c : ClassId, ArrOfT s c .double ∧ va_RA s c .double := by
  obtain ⟨cA, kA, comp, h1, h2, h3⟩ := Cond.arrayClass_spec (hts _ (inW1 102 rfl rfl : Cond.arrayClass .double ∈ tW))
  exact ⟨cA, fun n z => ⟨fun k h => (by cases h), kA, h2, comp, h3⟩, h1⟩
theorem ar_all {s : State} {args : Array Value} (hts : ∀ w ∈ tW, w.before args s = true) : ∃ cA : Nat → ClassId, ∀ (k : Nat) (q : ClassId × FieldType), (tysOf cA)[k]? = some q → ArrOfT s q.1 q.2 ∧ va_RA s q.1 q.2 := by
  obtain ⟨c0, h0⟩ := ar_0 hts
  obtain ⟨c1, h1⟩ := ar_1 hts
  obtain ⟨c2, h2⟩ := ar_2 hts
  obtain ⟨c3, h3⟩ := ar_3 hts
  obtain ⟨c4, h4⟩ := ar_4 hts
  refine ⟨fun t => if t = 0 then c0 else if t = 1 then c1 else if t = 2 then c2 else if t = 3 then c3 else c4, fun k q hq => ?_⟩
  match k, hq with
  | 0, hq => cases hq; exact h0
  | 1, hq => cases hq; exact h1
  | 2, hq => cases hq; exact h2
  | 3, hq => cases hq; exact h3
  | 4, hq => cases hq; exact h4
  | k + 5, hq => cases hq
theorem sta_0 {s : State} {b : Nat} (hts : ∀ w ∈ lw_tbl, w.before #[Value.ref b] s = true) (hgv : (Jvm.Cond.and given_1 narrow_1).before #[Value.ref b] s = true) : ∃ t : Nat, va_Z "TwinPanel" "NEEDED" "[I" (.ref t) (fun q : Nat => s.heap.size ≤ q) s s.heap ∧ va_T .int t 14 (fun j => .int (iw (NEED j))) (fun q : Nat => s.heap.size ≤ q) s s.heap := by
  have hs := flat_of_before _ hgv
  have harr : (Cond.arrayOf (.static "TwinPanel" "NEEDED" "[I") .int).before #[Value.ref b] s = true := hs _ (by decide +kernel)
  have hlen := va_eqt (hs (Cond.eq (.length (.static "TwinPanel" "NEEDED" "[I")) (.int 14)) (by decide +kernel))
  have hel : ∀ j : Nat, j < 14 → (Term.elem (.static "TwinPanel" "NEEDED" "[I") (.int (Int32.ofNat j))).eval #[Value.ref b] s none [] s = some (.int (iw (NEED j))) := fun j hj => by
    match j, hj with
    | 0, _ => exact va_eqt (hs (Cond.eq (.elem (.static "TwinPanel" "NEEDED" "[I") (.int 0)) (.int (-1))) (by decide +kernel))
    | 1, _ => exact va_eqt (hs (Cond.eq (.elem (.static "TwinPanel" "NEEDED" "[I") (.int 1)) (.int (1))) (by decide +kernel))
    | 2, _ => exact va_eqt (hs (Cond.eq (.elem (.static "TwinPanel" "NEEDED" "[I") (.int 2)) (.int (-1))) (by decide +kernel))
    | 3, _ => exact va_eqt (hs (Cond.eq (.elem (.static "TwinPanel" "NEEDED" "[I") (.int 3)) (.int (3))) (by decide +kernel))
    | 4, _ => exact va_eqt (hs (Cond.eq (.elem (.static "TwinPanel" "NEEDED" "[I") (.int 4)) (.int (3))) (by decide +kernel))
    | 5, _ => exact va_eqt (hs (Cond.eq (.elem (.static "TwinPanel" "NEEDED" "[I") (.int 5)) (.int (3))) (by decide +kernel))
    | 6, _ => exact va_eqt (hs (Cond.eq (.elem (.static "TwinPanel" "NEEDED" "[I") (.int 6)) (.int (1))) (by decide +kernel))
    | 7, _ => exact va_eqt (hs (Cond.eq (.elem (.static "TwinPanel" "NEEDED" "[I") (.int 7)) (.int (1))) (by decide +kernel))
    | 8, _ => exact va_eqt (hs (Cond.eq (.elem (.static "TwinPanel" "NEEDED" "[I") (.int 8)) (.int (3))) (by decide +kernel))
    | 9, _ => exact va_eqt (hs (Cond.eq (.elem (.static "TwinPanel" "NEEDED" "[I") (.int 9)) (.int (7))) (by decide +kernel))
    | 10, _ => exact va_eqt (hs (Cond.eq (.elem (.static "TwinPanel" "NEEDED" "[I") (.int 10)) (.int (1))) (by decide +kernel))
    | 11, _ => exact va_eqt (hs (Cond.eq (.elem (.static "TwinPanel" "NEEDED" "[I") (.int 11)) (.int (1))) (by decide +kernel))
    | 12, _ => exact va_eqt (hs (Cond.eq (.elem (.static "TwinPanel" "NEEDED" "[I") (.int 12)) (.int (1))) (by decide +kernel))
    | 13, _ => exact va_eqt (hs (Cond.eq (.elem (.static "TwinPanel" "NEEDED" "[I") (.int 13)) (.int (0))) (by decide +kernel))
    | j + 14, hj => exact absurd hj (by omega)
  have hA : ∀ a : Nat, a < s.heap.size → ¬ (fun q : Nat => s.heap.size ≤ q) a := fun a h => Nat.not_le.mpr h
  obtain ⟨t, ht, hT⟩ := va_Tof (N := 14) (f := fun j => .int (iw (NEED j))) (A := fun q : Nat => s.heap.size ≤ q) (by decide) harr hlen hel hA
  exact ⟨t, va_Zref (hts _ (List.mem_append_right _ (List.mem_append_right _ (List.mem_append_left _ (List.mem_of_getElem? (i := 169) rfl))))) (hts _ (List.mem_append_right _ (List.mem_append_left _ (List.mem_of_getElem? (i := 1) rfl)))) ht hA, hT⟩
theorem mst_0 {s : State} {b : Nat} (hts : ∀ w ∈ lw_tbl, w.before #[Value.ref b] s = true) : Mst s := ⟨va_Nw.of rfl (hts _ (List.mem_append_right _ (List.mem_append_left _ (List.mem_of_getElem? (i := 24) rfl)))), va_Nw.of rfl (hts _ (List.mem_append_right _ (List.mem_append_left _ (List.mem_of_getElem? (i := 203) rfl))))⟩
theorem lw_call {p : Program} {l : Launch} {e : Env} {s : State} {m : MethodId} {b : Nat} {below : List Frame} {meth : Method} {c : Code} {H : Heap} {locs : List Loc} {k n : Nat} {Q : State → Prop} {cA : Nat → ClassId} {D : va_G} {A : Nat → Prop} {wr : va_W} {q : Nat} {ob : va_E} {m' : Mt} {mc' ms' idx pc : Nat} {w' : (Nat → Nat) → va_W} {ls : Array Slot} {st : List Value} (C : CallFix p m c code 4 s #[Value.ref b] tW "TwinPanelLaw") (hK : va_K D vwCl (tysOf cA) s) (hM : Mst s) (hP : va_P D vwCl (wr ++ [(q, ob)]) H) (hD : va_D A (wr ++ [(q, ob)])) (hS : va_S A s.heap H locs) (hA : ∀ q : Nat, s.heap.size ≤ q → A q) (hN : NM cA D m' [] (q, ob) mc' ms' w') (hok : Mok m' 0) (hr : Mr m' = none) (hl : Cond.methodLink "TwinPanelLaw" idx (My m') ∈ tW) (hin : Cond.instanceMethod (My m') ∈ tW) (hnm : (My m').name = "<init>") (hR : Mf m' + 1 ≤ 10 ∧ 8 + (Mn m' + 11) + Ml m' ≤ 444) (hsz : ls.size = 4) (hsum : (st.map fun v => v.category).sum ≤ 8) (hd : decode code pc = .ok (.invokespecial idx, 3)) (hcs : k + mc' ≤ 117 ∧ n + ms' ≤ 6651)
    (kk : ∀ (u : Nat → Nat) (H1 : Heap) (locs1 : List Loc), va_P D vwCl (wr ++ w' u) H1 → va_D A (wr ++ w' u) → va_S A s.heap H1 locs1 → W p l e room_1 s m #[Value.ref b] below meth c H1 locs1 (k + mc') (n + ms') Q (F0 m (pc + 3) ls st)) : W p l e room_1 s m #[Value.ref b] below meth c H locs k n Q (F0 m pc ls (.ref q :: st)) := by
  obtain ⟨c1, c2, c3, c6, c7⟩ := C
  have hx : (wr ++ [(q, ob)])[wr.length]? = some (q, ob) := by
    rw [List.getElem?_append_right (Nat.le_refl _), Nat.sub_self]; rfl
  have hF : ∀ x : Nat, va_A [(q, ob)] H.size x → A x := fun x z => by
    rcases z with ⟨j, e2, z⟩ | z
    · have hj : j < 1 := (List.getElem?_eq_some_iff.mp z).1
      rw [show j = 0 by omega] at z
      have z : (q, ob) = (x, e2) := Option.some.inj z
      have h := hD.2 _ _ hx
      rw [z] at h
      exact h
    · exact hA x (Nat.le_trans hS.1 z)
  refine va_callv (va_runI (Ts := tW) (own := "TwinPanelLaw") (y := My m') (bytes := Mc m') (maxL := Mn m') (n := 0) (As := []) (b := q) (nL := 4) (rest := st) ⟨c1, c2, c3, c6, c7⟩ (hN l H.size) ⟨callB_of 0 c7 (wsM_good hok) (by unfold wsM; rw [hr]) rfl rfl (c7 _ hok.2.1) (c7 _ hl) hok.2.2.1 hR, hnm, c7 _ hin⟩ ⟨blind_NPre _ cA D H.size (q, ob), fun U hU hW => ⟨rfl, by rw [hU], ?_, va_K.moved hW.alike hK, (Nst.of c7).moved hW, hM.moved hW⟩⟩ rfl rfl hsz rfl (lv_room hsum) hd hcs) hS (fun x _ h => hF x h) hF (fun u t H1 locs1 ht hvm _ hB hz1 hk1 hS1 => ?_)
  · rw [hU]
    intro j y hy
    have hj : j < 1 := (List.getElem?_eq_some_iff.mp hy).1
    rw [show j = 0 by omega] at hy
    have hy : (q, ob) = y := Option.some.inj hy
    rw [← hy]
    exact hP wr.length (q, ob) hx
  · obtain ⟨hP1, hD1⟩ := hB
    rw [ht] at hP1
    obtain ⟨hP', hD'⟩ := w_join (u1 := wr) (u2 := []) hP hD hk1 hF hP1 hD1
    rw [List.append_nil] at hP' hD'
    exact kk u H1 locs1 hP' hD' hS1
set_option maxHeartbeats 4000000 in
set_option maxRecDepth 100000 in
/-- THE LAW, from its entry -/
theorem whole_start {p : Program} {e : Env} {s : State} {m : MethodId} {below : List Frame} {meth : Method} {c : Code} (l : Launch) {b L : Nat} {xs : Nat → Int32} (hL : L ≤ 4608) (C0 : lw_At p s m meth c b L xs) : W p l e room_1 s m #[Value.ref b] below meth c s.heap [] 0 0 (lw_Z below #[Value.ref b] s) (entryFrame m ([Value.ref b] : List Value).toArray 4) := by
  obtain ⟨hx, hb, hr, hml, hown, hts, hX, hbl, hlocks, hgv⟩ := id C0
  have htw : ∀ w ∈ tW, w.before #[Value.ref b] s = true := fun w hw => hts w (List.mem_filter.mp hw).1
  have hA : ∀ q : Nat, s.heap.size ≤ q → (fun q : Nat => s.heap.size ≤ q) q := fun _ h => h
  obtain ⟨D, hKc⟩ := kn_all htw
  obtain ⟨cA, hKa⟩ := ar_all htw
  obtain ⟨t, hZ, hT⟩ := sta_0 hts hgv
  have hM := mst_0 hts
  have hK : va_K D vwCl (tysOf cA) s := ⟨hKc, hKa⟩
  have hP : va_P D vwCl [] s.heap := fun k q h => by simp at h
  have hD : va_D (fun q : Nat => s.heap.size ≤ q) [] := ⟨fun i j p q h => by simp at h, fun k q h => by simp at h⟩
  have hS : va_S (fun q : Nat => s.heap.size ≤ q) s.heap s.heap [] := va_S.rf
  have hl := lv_entry ([.ref b]) (n := 4) (Nat.le_of_ble_eq_true rfl)
  rw [lg_entry_eq]
  generalize (lg_sl ([.ref b]) ++ List.replicate (4 - (lg_sl ([.ref b])).length) Slot.unset).toArray = ls at hl ⊢
  have hl : lv_has ls 4 [(0, .ref b)] := hl
  have hfx : CallFix p m c code 4 s #[Value.ref b] tW "TwinPanelLaw" := ⟨hx, hb, hml, hown, htw⟩
  refine va_new (ci := 6) (fs := [.null, .null, .null, .null, .null, .null, .null, .null, .null, .int 0, .int 0, .int 0, .int 0]) hx hb htw cf_6.2.1 tyX7 cf_6.2.2.1 hown (htw (.classLink "TwinPanelLaw" 7 "TwinPanel") (inW1 14 rfl rfl)) (htw _ (inW1 15 rfl rfl)) (htw _ (inW1 1 rfl rfl)) hK hP hD hS hA cf_6.1 (fun j hj => match j, hj with | 0, _ => rfl | 1, _ => rfl | 2, _ => rfl | 3, _ => rfl | 4, _ => rfl | 5, _ => rfl | 6, _ => rfl | 7, _ => rfl | 8, _ => rfl | 9, _ => rfl | 10, _ => rfl | 11, _ => rfl | 12, _ => rfl | _ + 13, h => absurd h (by omega)) (Nat.le_of_ble_eq_true rfl) (Nat.le_of_ble_eq_true rfl) dW_0 (fun q0 H hP hD hS => ?_)
  refine lv_dup hx hb dW_3 rfl ?_
  refine lw_call hfx hK hM hP hD hS hA (nX_init cA D q0) ok_mX_init rfl (inW1 16 rfl rfl) (inW1 17 rfl rfl) rfl ⟨Nat.le_of_ble_eq_true rfl, Nat.le_of_ble_eq_true rfl⟩ hl.1 (Nat.le_of_ble_eq_true rfl) dW_4 ⟨Nat.le_of_ble_eq_true rfl, Nat.le_of_ble_eq_true rfl⟩ (fun u H locs hP hD hS => ?_)
  refine lv_astore_n (lv' := [(1, .ref q0), (0, .ref b)]) hx hb dW_7 rfl hl (by decide) rfl (fun ls hl => ?_)
  refine va_new (ci := 7) (fs := [.int 0, .null, .null, .null, .null, .null, .null, .null, .null, .null, .null, .int 0, .int 0, .int 0, .int 0, .int 0, .int 0, .null, .null, .null, .null, .null, .null, .null, .null, .null, .null, .null, .null, .null, .null, .null, .null, .null, .null, .null, .null, .int 0, .null, .null, .null, .int 0, .null, .null, .int 0, .double 0, .null, .null, .null, .null, .null, .null, .null, .null, .null, .null, .null, .null, .int 0, .double 0, .long 0]) hx hb htw cf_7.2.1 tyX8 cf_7.2.2.1 hown (htw (.classLink "TwinPanelLaw" 10 "TwinPanelModel") (inW4 14 rfl rfl)) (htw _ (inW4 15 rfl rfl)) (htw _ (inW1 8 rfl rfl)) hK hP hD hS hA cf_7.1 (fun j hj => match j, hj with | 0, _ => rfl | 1, _ => rfl | 2, _ => rfl | 3, _ => rfl | 4, _ => rfl | 5, _ => rfl | 6, _ => rfl | 7, _ => rfl | 8, _ => rfl | 9, _ => rfl | 10, _ => rfl | 11, _ => rfl | 12, _ => rfl | 13, _ => rfl | 14, _ => rfl | 15, _ => rfl | 16, _ => rfl | 17, _ => rfl | 18, _ => rfl | 19, _ => rfl | 20, _ => rfl | 21, _ => rfl | 22, _ => rfl | 23, _ => rfl | 24, _ => rfl | 25, _ => rfl | 26, _ => rfl | 27, _ => rfl | 28, _ => rfl | 29, _ => rfl | 30, _ => rfl | 31, _ => rfl | 32, _ => rfl | 33, _ => rfl | 34, _ => rfl | 35, _ => rfl | 36, _ => rfl | 37, _ => rfl | 38, _ => rfl | 39, _ => rfl | 40, _ => rfl | 41, _ => rfl | 42, _ => rfl | 43, _ => rfl | 44, _ => rfl | 45, _ => rfl | 46, _ => rfl | 47, _ => rfl | 48, _ => rfl | 49, _ => rfl | 50, _ => rfl | 51, _ => rfl | 52, _ => rfl | 53, _ => rfl | 54, _ => rfl | 55, _ => rfl | 56, _ => rfl | 57, _ => rfl | 58, _ => rfl | 59, _ => rfl | 60, _ => rfl | _ + 61, h => absurd h (by omega)) (Nat.le_of_ble_eq_true rfl) (Nat.le_of_ble_eq_true rfl) dW_8 (fun q1 H hP hD hS => ?_)
  refine lv_dup hx hb dW_11 rfl ?_
  refine lw_call hfx hK hM hP hD hS hA (nM_init cA D q1) ok_mM_init rfl (inW4 16 rfl rfl) (inW4 17 rfl rfl) rfl ⟨Nat.le_of_ble_eq_true rfl, Nat.le_of_ble_eq_true rfl⟩ hl.1 (Nat.le_of_ble_eq_true rfl) dW_12 ⟨Nat.le_of_ble_eq_true rfl, Nat.le_of_ble_eq_true rfl⟩ (fun v H locs hP hD hS => ?_)
  refine lv_astore_n (lv' := [(2, .ref q1), (1, .ref q0), (0, .ref b)]) hx hb dW_15 rfl hl (by decide) rfl (fun ls hl => ?_)
  refine lv_iconst (v := 0) hx hb dW_16 (by decide) ?_
  refine lv_istore_n (lv' := [(3, .int 0), (2, .ref q1), (1, .ref q0), (0, .ref b)]) hx hb dW_17 rfl hl (by decide) rfl (fun ls hl => ?_)
  have hP : va_P D vwCl (nwX cA q0 u ++ nwM cA q1 v) H := hP
  have hD : va_D (fun q : Nat => s.heap.size ≤ q) (nwX cA q0 u ++ nwM cA q1 v) := hD
  have hw : ∀ (k : Nat), k < lay.length → ∃ d, (nwX cA q0 u ++ nwM cA q1 v)[k]? = some (adrs q0 q1 u v t b k, cE (adrs q0 q1 u v t b) cA sg0 k d) := fun k hk => ⟨_, wf_all k (List.getElem?_eq_getElem hk)⟩
  have hAd : ∀ c : Nat, c < lay.length → s.heap.size ≤ adrs q0 q1 u v t b c := fun k hk => by
    obtain ⟨d, h⟩ := hw k hk
    exact hD.2 k _ h
  have hAw : ∀ q : Nat, Aw (adrs q0 q1 u v t b) q → s.heap.size ≤ q := fun q ⟨x, h1, h2⟩ => by rw [h2]; exact hAd x h1
  have hLx : Lx L xs [(0, vR 1001), (1, vR 0), (2, vR 69), (3, vI 0)] sg0 p s m meth c H locs ls (adrs q0 q1 u v t b) cA D := by
    refine ⟨hx, hb, hml, hr, hlocks, hown, htw, hK, fun i j hi hj e => ?_, ⟨hZ.narrow hAw, hT.narrow hAw⟩, fun k q hk => ?_, hS, lv_sub hl [3, 2, 1, 0] rfl, hAd, hX, hbl⟩
    · obtain ⟨d1, h1⟩ := hw i hi
      obtain ⟨d2, h2⟩ := hw j hj
      exact hD.1 i j _ _ h1 h2 e
    · obtain ⟨d, h1, rfl⟩ := ws_at hk
      exact hP k _ (wf_all k h1)
  exact law_loop hL L 0 (by omega) (by omega) (by omega) sg0 rel_0 p l e s m below meth c H locs ls (adrs q0 q1 u v t b) cA D hLx
