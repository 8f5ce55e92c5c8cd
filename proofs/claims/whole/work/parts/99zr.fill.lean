/-! ===== constructors: a row filled with -1 ===== -/
section NJF
variable {cA : Nat → ClassId} {D : va_G} {m : Mt} {mc ms : Nat} {w1 : (Nat → Nat) → va_W} {pc p2 : Nat} {lv lv' : List (Nat × Value)} {st : List Value} {ws : va_W} {k n : Nat}
theorem n_istore_n {i : Fin 4} {x : Int32} (hd : Dec m pc (.istore_n i) 1) (hp : pc + 1 = p2) (hn : (i : Nat) < Mn m) (hl : ((i : Nat), Value.int x) :: lv.filter (fun q => !(q.1 == (i : Nat)) && !(q.1 + 1 == (i : Nat) && q.2.category == 2)) = lv') (kk : NJ cA D m mc ms w1 p2 lv' st ws k n) : NJ cA D m mc ms w1 pc lv (.int x :: st) ws k n := by
  subst hp
  intro p l e s mid args below meth c H locs ls A C
  obtain ⟨c1, c2, c3, c4, c5, c6, c7, c8, c9, c10, c11, c12, c13, c14, c15⟩ := C
  refine lv_istore_n c1 c2 hd rfl c14 hn hl (fun ls2 h2 => ?_)
  exact kk p l e s mid args below meth c H locs ls2 A ⟨c1, c2, c3, c4, c5, c6, c7, c8, c9, c10, c11, c12, c13, h2, c15⟩
theorem n_iinc {i : Nat} {y : Int} {x v : Int32} (j : Nat) (hd : Dec m pc (.iinc i y) 3) (hp : pc + 3 = p2) (hx : lv[j]? = some (i, Value.int x)) (hv : x + Int32.ofInt y = v) (hn : i < Mn m) (hl : (i, Value.int v) :: lv.filter (fun q => !(q.1 == i) && !(q.1 + 1 == i && q.2.category == 2)) = lv') (kk : NJ cA D m mc ms w1 p2 lv' st ws k n) : NJ cA D m mc ms w1 pc lv st ws k n := by
  subst hp
  intro p l e s mid args below meth c H locs ls A C
  obtain ⟨c1, c2, c3, c4, c5, c6, c7, c8, c9, c10, c11, c12, c13, c14, c15⟩ := C
  refine lv_iinc (v := v) c1 c2 hd c14 hx hv hn hl (fun ls2 h2 => ?_)
  exact kk p l e s mid args below meth c H locs ls2 A ⟨c1, c2, c3, c4, c5, c6, c7, c8, c9, c10, c11, c12, c13, h2, c15⟩
theorem n_icmp_ge {a b : Int} {off : Int} {tg : Nat} (hd : Dec m pc (.if_icmp .ge off) 3) (hp : pc + 3 = p2) (ht : (pc : Int) + off = (tg : Int)) (ha : inR a) (hb : inR b) (kt : b ≤ a → NJ cA D m mc ms w1 tg lv st ws k n) (kf : a < b → NJ cA D m mc ms w1 p2 lv st ws k n) : NJ cA D m mc ms w1 pc lv (.int (iw b) :: .int (iw a) :: st) ws k n := by
  subst hp
  exact fun p l e s mid args below meth c H locs ls A C => lv_icmp_ge C.1 C.2.1 hd ht (fun q => kt ((iw_le hb ha).mp q) p l e s mid args below meth c H locs ls A C) (fun q => kf (Int.not_le.mp fun h => q ((iw_le hb ha).mpr h)) p l e s mid args below meth c H locs ls A C)
theorem n_iast {w0 : Nat × va_E} {as : va_W} {q N : Nat} {f : Nat → Int32} {i x : Int32} (j : Nat) (hd : Dec m pc .iastore 1) (hp : pc + 1 = p2) (ha : as[j]? = some (q, .inl (cA 0, N, .inl f))) (hin : vp_in i N) (kk : NJ cA D m mc ms w1 p2 lv st (w0 :: as.set j (q, .inl (cA 0, N, .inl (upd f i.toNatClampNeg x)))) k n) : NJ cA D m mc ms w1 pc lv (.int x :: .int i :: .ref q :: st) (w0 :: as) k n := by
  subst hp
  intro p l e s mid args below meth c H locs ls A C
  obtain ⟨c1, c2, c3, c4, c5, c6, c7, c8, c9, c10, c11, c12, c13, c14, c15⟩ := C
  refine va_iast c1 c2 c9 c10 c11 c12 (j + 1) 0 (by rw [List.getElem?_cons_succ]; exact ha) rfl hin hd (fun H1 locs1 hP hD hS => ?_)
  exact kk p l e s mid args below meth c H1 locs1 ls A ⟨c1, c2, c3, c4, c5, c6, c7, c8, c9, hP, hD, hS, c13, c14, c15⟩
/-- for (i = 0; i < N; i++) row[i] = -1 -/
theorem n_fill {a N h0 q idx ci kf NN : Nat} {C : String} {T : u_T} {ty : Nat → FieldType} {fs : List Value} {as : va_W} (j : Nat) (hm : 1 < Mn m) (hN : N ≤ 127) (d0 : Dec m a (.iload_n 1) 1) (d1 : Dec m (a + 1) (.bipush N) 2) (d3 : Dec m (a + 3) (.if_icmp .ge 16) 3) (d6 : Dec m (a + 6) (.aload_n 0) 1) (d7 : Dec m (a + 7) (.getfield idx) 3) (d10 : Dec m (a + 10) (.iload_n 1) 1) (d11 : Dec m (a + 11) (.iconst (-1)) 1) (d12 : Dec m (a + 12) .iastore 1) (d13 : Dec m (a + 13) (.iinc 1 1) 3) (d16 : Dec m (a + 16) (.goto (-16)) 3) (hb : (Int8.ofInt N).toInt32 = iw N) (hf : CF ci C T NN ty) (hk : kf < NN) (hw : Cond.fieldLink (Mo m) idx C (T kf).2.1 (T kf).2.2.1 ∈ tW) (hv : fs[kf]? = some (.ref q)) (ha : as[j]? = some (q, .inl (cA 0, N, .inl (fun _ => 0)))) (kk : NJ cA D m mc ms w1 (a + 19) [(1, .int (iw N)), (0, .ref h0)] [] ((h0, .inr (ci, fs)) :: as.set j (q, .inl (cA 0, N, .inl (fil N)))) k n) : NJ cA D m mc ms w1 a [(1, .int 0), (0, .ref h0)] [] ((h0, .inr (ci, fs)) :: as) k n := by
  have hjl : j < as.length := (List.getElem?_eq_some_iff.mp ha).1
  have loop : ∀ (f i : Nat), i + f = N → NJ cA D m mc ms w1 a [(1, .int (iw i)), (0, .ref h0)] [] ((h0, .inr (ci, fs)) :: as.set j (q, .inl (cA 0, N, .inl (fil i)))) k n := by
    intro f
    induction f with
    | zero =>
      intro i e
      have e : i = N := by omega
      subst e
      refine n_iload_n (p2 := a + 1) d0 rfl 0 rfl ?_
      refine n_bipush (p2 := a + 3) d1 rfl hb ?_
      refine n_icmp_ge (p2 := a + 6) (tg := a + 19) d3 rfl (by omega) (by constructor <;> omega) (by constructor <;> omega) (fun z => kk) (fun z => absurd z (by omega))
    | succ f ih =>
      intro i e
      refine n_iload_n (p2 := a + 1) d0 rfl 0 rfl ?_
      refine n_bipush (p2 := a + 3) d1 rfl hb ?_
      refine n_icmp_ge (p2 := a + 6) (tg := a + 19) d3 rfl (by omega) (by constructor <;> omega) (by constructor <;> omega) (fun z => absurd z (by omega)) (fun z => ?_)
      refine n_aload_n (p2 := a + 7) d6 rfl 1 rfl ?_
      refine n_get (p2 := a + 10) d7 rfl hf hk hw hv ?_
      refine n_iload_n (p2 := a + 11) d10 rfl 0 rfl ?_
      refine n_iconst (v := iw (-1)) (p2 := a + 12) d11 rfl rfl ?_
      refine n_iast (p2 := a + 13) j d12 rfl (List.getElem?_set_self hjl) (iw_in (by omega) (by omega) (by omega)) ?_
      rw [List.set_set, iw_clamp (by omega) (by omega), Int.toNat_natCast, fil_s]
      refine n_iinc (v := iw (i + 1 : Nat)) (p2 := a + 16) (lv' := [(1, .int (iw (i + 1 : Nat))), (0, .ref h0)]) 0 d13 rfl rfl (by have h := iw_add i 1; rw [Int.natCast_add]; exact h) hm rfl ?_
      refine n_goto (p2 := a) d16 (by omega) ?_
      exact ih (i + 1) (by omega)
  have h := loop N 0 (by omega)
  have e0 : as.set j (q, .inl (cA 0, N, .inl (fil 0))) = as := by
    rw [fil_0]
    apply List.ext_getElem?
    intro i
    by_cases e : j = i
    · subst e; rw [List.getElem?_set_self hjl, ha]
    · rw [List.getElem?_set_ne e]
  rw [e0] at h
  exact h
end NJF
