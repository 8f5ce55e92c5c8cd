/-! ===== the pure machine: values, heap, layout ===== -/
abbrev PV : Type := Int ⊕ Int64 ⊕ UInt32 ⊕ UInt64 ⊕ Nat
abbrev vI (x : Int) : PV := Sum.inl x
abbrev vL (x : Int64) : PV := Sum.inr (Sum.inl x)
abbrev vF (x : UInt32) : PV := Sum.inr (Sum.inr (Sum.inl x))
abbrev vD (x : UInt64) : PV := Sum.inr (Sum.inr (Sum.inr (Sum.inl x)))
abbrev vR (x : Nat) : PV := Sum.inr (Sum.inr (Sum.inr (Sum.inr x)))
def iw (x : Int) : Int32 := Int32.ofInt x
def rv (ad : Nat → Nat) (v : PV) : Value := match v with
  | .inl x => .int (iw x)
  | .inr (.inl x) => .long x
  | .inr (.inr (.inl x)) => .float x
  | .inr (.inr (.inr (.inl x))) => .double x
  | .inr (.inr (.inr (.inr x))) => .ref (ad x)
def pcat (v : PV) : Nat := match v with
  | .inl _ => 1
  | .inr (.inl _) => 2
  | .inr (.inr (.inl _)) => 1
  | .inr (.inr (.inr (.inl _))) => 2
  | .inr (.inr (.inr (.inr _))) => 1
theorem pcat_rv (ad : Nat → Nat) (v : PV) : (rv ad v).category = pcat v := by
  rcases v with x | x | x | x | x <;> rfl
abbrev inR (a : Int) : Prop := -2147483648 ≤ a ∧ a < 2147483648
theorem iw_add (a b : Int) : iw a + iw b = iw (a + b) := by
  unfold iw; exact (Int32.ofInt_add a b).symm
theorem iw_sub (a b : Int) : iw a - iw b = iw (a - b) := by
  unfold iw; exact (Int32.ofInt_sub a b).symm
theorem iw_mul (a b : Int) : iw a * iw b = iw (a * b) := by
  unfold iw; exact (Int32.ofInt_mul a b).symm
theorem iw_neg (a : Int) : -iw a = iw (-a) := by
  unfold iw; exact (Int32.ofInt_neg a).symm
theorem iw_toInt {a : Int} (h : inR a) : (iw a).toInt = a := by
  unfold iw; rw [Int32.toInt_ofInt]
  have hs : (Int32.size : Int) = 4294967296 := rfl
  exact Int.bmod_eq_of_le (by omega) (by omega)
theorem iw_of (x : Int32) : iw x.toInt = x := by unfold iw; exact Int32.ofInt_toInt x
theorem iw_eq {a b : Int} (ha : inR a) (hb : inR b) : iw a = iw b ↔ a = b :=
  ⟨fun h => by rw [← iw_toInt ha, ← iw_toInt hb, h], fun h => by rw [h]⟩
theorem iw_lt {a b : Int} (ha : inR a) (hb : inR b) : iw a < iw b ↔ a < b := by
  rw [Int32.lt_iff_toInt_lt, iw_toInt ha, iw_toInt hb]
theorem iw_le {a b : Int} (ha : inR a) (hb : inR b) : iw a ≤ iw b ↔ a ≤ b := by
  rw [Int32.le_iff_toInt_le, iw_toInt ha, iw_toInt hb]
theorem iw_0 : iw 0 = 0 := rfl
theorem iw_clamp {a : Int} (h0 : 0 ≤ a) (h : a < 2147483648) : (iw a).toNatClampNeg = a.toNat := by
  show (iw a).toInt.toNat = _
  rw [iw_toInt ⟨by omega, h⟩]
theorem iw_in {a : Int} {n : Nat} (h0 : 0 ≤ a) (h : a < n) (hn : (n : Int) ≤ 2147483647) : vp_in (iw a) n := by
  unfold vp_in
  rw [iw_clamp h0 (by omega)]
  have h1 : ¬ iw a < 0 := by
    rw [← iw_0, iw_lt ⟨by omega, by omega⟩ ⟨by omega, by omega⟩]; omega
  intro q
  rcases q with q | q
  · exact h1 q
  · omega
abbrev Hp : Type := (Nat → Int → Int) × (Nat → Int → Int64) × (Nat → Int → UInt32) × (Nat → Int → UInt64)
def hI (σ : Hp) : Nat → Int → Int := σ.1
def hL (σ : Hp) : Nat → Int → Int64 := σ.2.1
def hF (σ : Hp) : Nat → Int → UInt32 := σ.2.2.1
def hD (σ : Hp) : Nat → Int → UInt64 := σ.2.2.2
def up2 {α : Type} (f : Nat → Int → α) (c : Nat) (k : Int) (v : α) : Nat → Int → α := fun c' k' => if c' = c ∧ k' = k then v else f c' k'
def sI (σ : Hp) (c : Nat) (k : Int) (v : Int) : Hp := (up2 σ.1 c k v, σ.2)
def sL (σ : Hp) (c : Nat) (k : Int) (v : Int64) : Hp := (σ.1, up2 σ.2.1 c k v, σ.2.2)
def sF (σ : Hp) (c : Nat) (k : Int) (v : UInt32) : Hp := (σ.1, σ.2.1, up2 σ.2.2.1 c k v, σ.2.2.2)
def sD (σ : Hp) (c : Nat) (k : Int) (v : UInt64) : Hp := (σ.1, σ.2.1, σ.2.2.1, up2 σ.2.2.2 c k v)
/-- n doubles of cell a come over those of cell b, both from place 0 on -/
def cD (σ : Hp) (a b : Nat) (n : Int) : Hp := (σ.1, σ.2.1, σ.2.2.1, fun c' k' => if c' = b ∧ (0 ≤ k' ∧ k' < n) then σ.2.2.2 a k' else σ.2.2.2 c' k')
theorem hI_sI (σ : Hp) (c : Nat) (k v : Int) (c' : Nat) (k' : Int) : hI (sI σ c k v) c' k' = if c' = c ∧ k' = k then v else hI σ c' k' := rfl
theorem hL_sI (σ : Hp) (c : Nat) (k v : Int) : hL (sI σ c k v) = hL σ := rfl
theorem hF_sI (σ : Hp) (c : Nat) (k v : Int) : hF (sI σ c k v) = hF σ := rfl
theorem hD_sI (σ : Hp) (c : Nat) (k v : Int) : hD (sI σ c k v) = hD σ := rfl
theorem hI_sL (σ : Hp) (c : Nat) (k : Int) (v : Int64) : hI (sL σ c k v) = hI σ := rfl
theorem hL_sL (σ : Hp) (c : Nat) (k : Int) (v : Int64) (c' : Nat) (k' : Int) : hL (sL σ c k v) c' k' = if c' = c ∧ k' = k then v else hL σ c' k' := rfl
theorem hF_sL (σ : Hp) (c : Nat) (k : Int) (v : Int64) : hF (sL σ c k v) = hF σ := rfl
theorem hD_sL (σ : Hp) (c : Nat) (k : Int) (v : Int64) : hD (sL σ c k v) = hD σ := rfl
theorem hI_sF (σ : Hp) (c : Nat) (k : Int) (v : UInt32) : hI (sF σ c k v) = hI σ := rfl
theorem hL_sF (σ : Hp) (c : Nat) (k : Int) (v : UInt32) : hL (sF σ c k v) = hL σ := rfl
theorem hF_sF (σ : Hp) (c : Nat) (k : Int) (v : UInt32) (c' : Nat) (k' : Int) : hF (sF σ c k v) c' k' = if c' = c ∧ k' = k then v else hF σ c' k' := rfl
theorem hD_sF (σ : Hp) (c : Nat) (k : Int) (v : UInt32) : hD (sF σ c k v) = hD σ := rfl
theorem hI_sD (σ : Hp) (c : Nat) (k : Int) (v : UInt64) : hI (sD σ c k v) = hI σ := rfl
theorem hL_sD (σ : Hp) (c : Nat) (k : Int) (v : UInt64) : hL (sD σ c k v) = hL σ := rfl
theorem hF_sD (σ : Hp) (c : Nat) (k : Int) (v : UInt64) : hF (sD σ c k v) = hF σ := rfl
theorem hD_sD (σ : Hp) (c : Nat) (k : Int) (v : UInt64) (c' : Nat) (k' : Int) : hD (sD σ c k v) c' k' = if c' = c ∧ k' = k then v else hD σ c' k' := rfl
theorem hI_cD (σ : Hp) (a b : Nat) (n : Int) : hI (cD σ a b n) = hI σ := rfl
theorem hL_cD (σ : Hp) (a b : Nat) (n : Int) : hL (cD σ a b n) = hL σ := rfl
theorem hF_cD (σ : Hp) (a b : Nat) (n : Int) : hF (cD σ a b n) = hF σ := rfl
theorem hD_cD (σ : Hp) (a b : Nat) (n : Int) (c' : Nat) (k' : Int) : hD (cD σ a b n) c' k' = if c' = b ∧ (0 ≤ k' ∧ k' < n) then hD σ a k' else hD σ c' k' := rfl
/-- a field's value: tag 0 int, 1 boolean, 2 long, 3 float, 4 double, 5 a reference to a cell -/
def fv (ad : Nat → Nat) (σ : Hp) (c k : Nat) (fd : Nat × Nat) : Value := match fd.1 with
  | 0 => .int (iw (hI σ c k))
  | 1 => .int (iw (hI σ c k))
  | 2 => .long (hL σ c k)
  | 3 => .float (hF σ c k)
  | 4 => .double (hD σ c k)
  | _ => .ref (ad fd.2)
def av (cA : Nat → ClassId) (σ : Hp) (c t n : Nat) : ClassId × vp_A := match t with
  | 0 => (cA 0, n, .inl (fun j => iw (hI σ c j)))
  | 1 => (cA 1, n, .inl (fun j => iw (hI σ c j)))
  | 2 => (cA 2, n, .inr (.inl (fun j => hL σ c j)))
  | 3 => (cA 3, n, .inr (.inr (.inl (fun j => hF σ c j))))
  | _ => (cA 4, n, .inr (.inr (.inr (.inl (fun j => hD σ c j)))))
def cE (ad : Nat → Nat) (cA : Nat → ClassId) (σ : Hp) (c : Nat) (d : LC) : va_E := match d with
  | .inl a => .inl (av cA σ c a.1 a.2)
  | .inr o => .inr (o.1, o.2.mapIdx (fun k fd => fv ad σ c k fd))
def wsOf (ad : Nat → Nat) (cA : Nat → ClassId) (σ : Hp) : va_W := lay.mapIdx (fun c d => (ad c, cE ad cA σ c d))
def tysOf (cA : Nat → ClassId) : List (ClassId × FieldType) := [(cA 0, .int), (cA 1, .boolean), (cA 2, .long), (cA 3, .float), (cA 4, .double)]
def Aw (ad : Nat → Nat) : Nat → Prop := fun q => ∃ c : Nat, c < lay.length ∧ q = ad c
def Adj (ad : Nat → Nat) : Prop := ∀ i j : Nat, i < lay.length → j < lay.length → ad i = ad j → i = j
theorem ws_get {ad : Nat → Nat} {cA : Nat → ClassId} {σ : Hp} {c : Nat} {d : LC} (h : lay[c]? = some d) : (wsOf ad cA σ)[c]? = some (ad c, cE ad cA σ c d) := by
  unfold wsOf; rw [List.getElem?_mapIdx, h]; rfl
theorem ws_at {ad : Nat → Nat} {cA : Nat → ClassId} {σ : Hp} {c : Nat} {q : Nat × va_E} (h : (wsOf ad cA σ)[c]? = some q) : ∃ d, lay[c]? = some d ∧ q = (ad c, cE ad cA σ c d) := by
  unfold wsOf at h
  rw [List.getElem?_mapIdx] at h
  cases hd : lay[c]? with
  | none => rw [hd] at h; cases h
  | some d => rw [hd] at h; exact ⟨d, rfl, (Option.some.inj h).symm⟩
theorem ws_D {ad : Nat → Nat} (h : Adj ad) (cA : Nat → ClassId) (σ : Hp) : va_D (Aw ad) (wsOf ad cA σ) := by
  refine ⟨fun i j p q hp hq e => ?_, fun k q hq => ?_⟩
  · obtain ⟨d, h1, rfl⟩ := ws_at hp
    obtain ⟨d2, h2, rfl⟩ := ws_at hq
    exact h i j (List.getElem?_eq_some_iff.mp h1).1 (List.getElem?_eq_some_iff.mp h2).1 e
  · obtain ⟨d, h1, rfl⟩ := ws_at hq
    exact ⟨k, (List.getElem?_eq_some_iff.mp h1).1, rfl⟩
theorem cE_congr {ad : Nat → Nat} {cA : Nat → ClassId} {σ σ' : Hp} {c : Nat} (h1 : hI σ' c = hI σ c) (h2 : hL σ' c = hL σ c) (h3 : hF σ' c = hF σ c) (h4 : hD σ' c = hD σ c) (d : LC) : cE ad cA σ' c d = cE ad cA σ c d := by
  have hfv : ∀ (k : Nat) (fd : Nat × Nat), fv ad σ' c k fd = fv ad σ c k fd := fun k fd => by
    unfold fv; rw [h1, h2, h3, h4]
  have hav : ∀ t n, av cA σ' c t n = av cA σ c t n := fun t n => by
    unfold av; rw [h1, h2, h3, h4]
  unfold cE
  cases d with
  | inl a => simp only [hav]
  | inr o => simp only [hfv]
theorem ws_set {ad : Nat → Nat} {cA : Nat → ClassId} {σ σ' : Hp} {c : Nat} {d : LC} {x : va_E} (h : lay[c]? = some d) (hx : x = cE ad cA σ' c d) (ho : ∀ c', c' ≠ c → hI σ' c' = hI σ c' ∧ hL σ' c' = hL σ c' ∧ hF σ' c' = hF σ c' ∧ hD σ' c' = hD σ c') : (wsOf ad cA σ).set c (ad c, x) = wsOf ad cA σ' := by
  apply List.ext_getElem?
  intro i
  rw [List.getElem?_set]
  by_cases hi : c = i
  · subst hi
    have hl : c < (wsOf ad cA σ).length := (List.getElem?_eq_some_iff.mp (ws_get (ad := ad) (cA := cA) (σ := σ) h)).1
    rw [if_pos rfl, if_pos hl, ws_get h, hx]
  · rw [if_neg hi]
    unfold wsOf
    rw [List.getElem?_mapIdx, List.getElem?_mapIdx]
    cases hd : lay[i]? with
    | none => rfl
    | some d2 =>
      obtain ⟨a1, a2, a3, a4⟩ := ho i (fun q => hi q.symm)
      simp only [Option.map_some, cE_congr a1 a2 a3 a4]
theorem up2_ne {α : Type} {f : Nat → Int → α} {c c' : Nat} {k : Int} {v : α} (h : c' ≠ c) : up2 f c k v c' = f c' := by
  funext k'; unfold up2; rw [if_neg (fun q => h q.1)]
theorem ho_sI {σ : Hp} {c : Nat} {k v : Int} : ∀ c', c' ≠ c → hI (sI σ c k v) c' = hI σ c' ∧ hL (sI σ c k v) c' = hL σ c' ∧ hF (sI σ c k v) c' = hF σ c' ∧ hD (sI σ c k v) c' = hD σ c' := fun _ h => ⟨up2_ne h, rfl, rfl, rfl⟩
theorem ho_sL {σ : Hp} {c : Nat} {k : Int} {v : Int64} : ∀ c', c' ≠ c → hI (sL σ c k v) c' = hI σ c' ∧ hL (sL σ c k v) c' = hL σ c' ∧ hF (sL σ c k v) c' = hF σ c' ∧ hD (sL σ c k v) c' = hD σ c' := fun _ h => ⟨rfl, up2_ne h, rfl, rfl⟩
theorem ho_sF {σ : Hp} {c : Nat} {k : Int} {v : UInt32} : ∀ c', c' ≠ c → hI (sF σ c k v) c' = hI σ c' ∧ hL (sF σ c k v) c' = hL σ c' ∧ hF (sF σ c k v) c' = hF σ c' ∧ hD (sF σ c k v) c' = hD σ c' := fun _ h => ⟨rfl, rfl, up2_ne h, rfl⟩
theorem ho_sD {σ : Hp} {c : Nat} {k : Int} {v : UInt64} : ∀ c', c' ≠ c → hI (sD σ c k v) c' = hI σ c' ∧ hL (sD σ c k v) c' = hL σ c' ∧ hF (sD σ c k v) c' = hF σ c' ∧ hD (sD σ c k v) c' = hD σ c' := fun _ h => ⟨rfl, rfl, rfl, up2_ne h⟩
theorem ho_cD {σ : Hp} {a c : Nat} {n : Int} : ∀ c', c' ≠ c → hI (cD σ a c n) c' = hI σ c' ∧ hL (cD σ a c n) c' = hL σ c' ∧ hF (cD σ a c n) c' = hF σ c' ∧ hD (cD σ a c n) c' = hD σ c' := fun c' h => ⟨rfl, rfl, rfl, by funext k; show (if c' = c ∧ _ then _ else _) = _; rw [if_neg (fun q => h q.1)]; rfl⟩
/-- an update of the row of a cell, place by place -/
theorem row_up {α β : Type} (g : α → β) (f : Nat → Int → α) (c : Nat) {k : Int} (v : α) (h0 : 0 ≤ k) (j : Nat) : g (up2 f c k v c j) = if j = k.toNat then g v else g (f c j) := by
  unfold up2
  by_cases h : (j : Int) = k
  · rw [if_pos ⟨rfl, h⟩, if_pos (by omega)]
  · rw [if_neg (fun q => h q.2), if_neg (by omega)]
/-! ===== locals ===== -/
def lgt : List (Nat × PV) → Nat → Option PV
  | [], _ => none
  | q :: r, i => match Nat.beq q.1 i with
    | true => some q.2
    | false => lgt r i
theorem lgt_mem : ∀ {lv : List (Nat × PV)} {i : Nat} {v : PV}, lgt lv i = some v → (i, v) ∈ lv
  | [], _, _, h => by cases h
  | (j, w) :: r, i, v, h => by
    unfold lgt at h
    cases hb : Nat.beq j i with
    | true =>
      rw [hb] at h
      have e1 : j = i := Nat.eq_of_beq_eq_true hb
      have e2 : w = v := Option.some.inj h
      rw [← e1, ← e2]; exact List.mem_cons_self
    | false =>
      rw [hb] at h
      exact List.mem_cons_of_mem _ (lgt_mem h)
def locOk (lv : List (Nat × PV)) : List (Nat × PV) → Prop
  | [] => True
  | q :: r => lgt lv q.1 = some q.2 ∧ locOk lv r
theorem locOk_mem {lv : List (Nat × PV)} : ∀ {lv' : List (Nat × PV)}, locOk lv lv' → ∀ q ∈ lv', q ∈ lv
  | [], _, q, h => by cases h
  | (i, v) :: r, h, q, hq => by
    rcases List.mem_cons.mp hq with e | e
    · rw [e]; exact lgt_mem h.1
    · exact locOk_mem h.2 q e
/-- the list behind a store: what the new value covers goes -/
def setL (lv : List (Nat × PV)) (i : Nat) (v : PV) : List (Nat × PV) :=
  (i, v) :: lv.filter (fun q => !(Nat.beq q.1 i) && (!(Nat.beq (q.1 + 1) i && Nat.beq (pcat q.2) 2) && !(Nat.beq (pcat v) 2 && Nat.beq q.1 (i + 1))))
def lvR (ad : Nat → Nat) (lv : List (Nat × PV)) : List (Nat × Value) := lv.map (fun q => (q.1, rv ad q.2))
theorem lvR_has {ad : Nat → Nat} {ls : Array Slot} {n : Nat} {lv : List (Nat × PV)} (h : lv_has ls n (lvR ad lv)) {i : Nat} {v : PV} (hg : lgt lv i = some v) : ls[i]? = some (.val (rv ad v)) :=
  h.2.2 (i, rv ad v) (List.mem_map.mpr ⟨(i, v), lgt_mem hg, rfl⟩)
theorem lvR_sub {ad : Nat → Nat} {ls : Array Slot} {n : Nat} {lv lv' : List (Nat × PV)} (h : lv_has ls n (lvR ad lv)) (hk : ∀ q ∈ lv', q ∈ lv) : lv_has ls n (lvR ad lv') :=
  ⟨h.1, h.2.1, fun q hq => by
    obtain ⟨x, hx, rfl⟩ := List.mem_map.mp hq
    exact h.2.2 _ (List.mem_map.mpr ⟨x, hk x hx, rfl⟩)⟩
theorem beqN (a b : Nat) : (a == b) = Nat.beq a b := by
  cases h : Nat.beq a b with
  | true => rw [Nat.eq_of_beq_eq_true h]; exact beq_self_eq_true b
  | false => exact beq_eq_false_iff_ne.mpr (Nat.ne_of_beq_eq_false h)
theorem setL_1 {ad : Nat → Nat} {ls : Array Slot} {n : Nat} {lv lv' : List (Nat × PV)} {i : Nat} {v : PV} (hc : pcat v = 1) (hl : locOk (setL lv i v) lv') (h : lv_has ls n ((i, rv ad v) :: (lvR ad lv).filter (fun q => !(q.1 == i) && !(q.1 + 1 == i && q.2.category == 2)))) : lv_has ls n (lvR ad lv') := by
  refine ⟨h.1, h.2.1, fun q hq => ?_⟩
  obtain ⟨x, hx, rfl⟩ := List.mem_map.mp hq
  have hm := locOk_mem hl x hx
  apply h.2.2
  unfold setL at hm
  rcases List.mem_cons.mp hm with e | e
  · rw [e]; exact List.mem_cons_self
  · refine List.mem_cons_of_mem _ (List.mem_filter.mpr ⟨List.mem_map.mpr ⟨x, (List.mem_filter.mp e).1, rfl⟩, ?_⟩)
    have h2 := (List.mem_filter.mp e).2
    simp only [Bool.and_eq_true] at h2
    simp only [beqN, pcat_rv, Bool.and_eq_true]
    exact ⟨h2.1, h2.2.1⟩
theorem setL_2 {ad : Nat → Nat} {ls : Array Slot} {n : Nat} {lv lv' : List (Nat × PV)} {i : Nat} {v : PV} (hc : pcat v = 2) (hl : locOk (setL lv i v) lv') (h : lv_has ls n ((i, rv ad v) :: (lvR ad lv).filter (fun q => !(q.1 == i) && (!(q.1 == i + 1) && !(q.1 + 1 == i && q.2.category == 2))))) : lv_has ls n (lvR ad lv') := by
  refine ⟨h.1, h.2.1, fun q hq => ?_⟩
  obtain ⟨x, hx, rfl⟩ := List.mem_map.mp hq
  have hm := locOk_mem hl x hx
  apply h.2.2
  unfold setL at hm
  rcases List.mem_cons.mp hm with e | e
  · rw [e]; exact List.mem_cons_self
  · refine List.mem_cons_of_mem _ (List.mem_filter.mpr ⟨List.mem_map.mpr ⟨x, (List.mem_filter.mp e).1, rfl⟩, ?_⟩)
    have h2 := (List.mem_filter.mp e).2
    simp only [Bool.and_eq_true, hc] at h2
    simp only [beqN, pcat_rv, Bool.and_eq_true]
    refine ⟨h2.1, ?_, h2.2.1⟩
    have h3 := h2.2.2
    simpa using h3
