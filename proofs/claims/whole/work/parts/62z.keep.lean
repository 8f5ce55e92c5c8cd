/-! ===== cells that stay; readings stay small ===== -/
/-- all places of the three rows of readings hold small numbers -/
def K20 (σ : Hp) : Prop := ∀ k : Int, 0 ≤ k → k < 20 → (hD σ 22 k).toNat % 2 ^ 63 < 1024 * 2 ^ 52 ∧ (∃ x : UInt32, hD σ 35 k = FP.f2d x ∧ x.toNat % 2 ^ 31 < 128 * 2 ^ 23) ∧ (hD σ 57 k).toNat % 2 ^ 63 < 1024 * 2 ^ 52
def FqO (S : List Nat) (σ σ' : Hp) : Prop := ∀ c, c ∉ S → hI σ' c = hI σ c ∧ hL σ' c = hL σ c ∧ hF σ' c = hF σ c ∧ hD σ' c = hD σ c
/-- outside the cells of S the heaps are one; readings stay small -/
def Fq (S : List Nat) (σ σ' : Hp) : Prop := FqO S σ σ' ∧ (K20 σ → K20 σ')
theorem Fq.rf {S : List Nat} {σ : Hp} : Fq S σ σ := ⟨fun _ _ => ⟨rfl, rfl, rfl, rfl⟩, fun h => h⟩
theorem Fq.trans {S : List Nat} {a b c : Hp} (h1 : Fq S a b) (h2 : Fq S b c) : Fq S a c := ⟨fun x hx => by
  obtain ⟨a1, a2, a3, a4⟩ := h1.1 x hx
  obtain ⟨b1, b2, b3, b4⟩ := h2.1 x hx
  exact ⟨b1.trans a1, b2.trans a2, b3.trans a3, b4.trans a4⟩, fun h => h2.2 (h1.2 h)⟩
theorem Fq.weak {S S2 : List Nat} {a b : Hp} (h : Fq S a b) (hs : ∀ c ∈ S, c ∈ S2) : Fq S2 a b := ⟨fun c hc => h.1 c (fun q => hc (hs c q)), h.2⟩
theorem Fq.I {S : List Nat} {a b : Hp} (h : Fq S a b) {c : Nat} (hc : c ∉ S) : hI b c = hI a c := (h.1 c hc).1
theorem Fq.L {S : List Nat} {a b : Hp} (h : Fq S a b) {c : Nat} (hc : c ∉ S) : hL b c = hL a c := (h.1 c hc).2.1
theorem Fq.F {S : List Nat} {a b : Hp} (h : Fq S a b) {c : Nat} (hc : c ∉ S) : hF b c = hF a c := (h.1 c hc).2.2.1
theorem Fq.D {S : List Nat} {a b : Hp} (h : Fq S a b) {c : Nat} (hc : c ∉ S) : hD b c = hD a c := (h.1 c hc).2.2.2
theorem Fq.wI {S : List Nat} {a b : Hp} {c : Nat} {g : Int → Int} (h : Fq S a b) (hc : c ∈ S) : Fq S a (wI b c g) := ⟨fun x hx => by
  obtain ⟨a1, a2, a3, a4⟩ := h.1 x hx
  exact ⟨by rw [hI_wI, if_neg (fun q => hx (by rw [q]; exact hc))]; exact a1, a2, a3, a4⟩, fun z => h.2 z⟩
theorem Fq.wL {S : List Nat} {a b : Hp} {c : Nat} {g : Int → Int64} (h : Fq S a b) (hc : c ∈ S) : Fq S a (wL b c g) := ⟨fun x hx => by
  obtain ⟨a1, a2, a3, a4⟩ := h.1 x hx
  exact ⟨a1, by rw [hL_wL, if_neg (fun q => hx (by rw [q]; exact hc))]; exact a2, a3, a4⟩, fun z => h.2 z⟩
theorem Fq.wF {S : List Nat} {a b : Hp} {c : Nat} {g : Int → UInt32} (h : Fq S a b) (hc : c ∈ S) : Fq S a (wF b c g) := ⟨fun x hx => by
  obtain ⟨a1, a2, a3, a4⟩ := h.1 x hx
  exact ⟨a1, a2, by rw [hF_wF, if_neg (fun q => hx (by rw [q]; exact hc))]; exact a3, a4⟩, fun z => h.2 z⟩
theorem Fq.wR {S : List Nat} {a b : Hp} {c : Nat} {g : Int → UInt64} (h : Fq S a b) (hc : c ∈ S) (hg : K20 b → K20 (wD b c g)) : Fq S a (wD b c g) := ⟨fun x hx => by
  obtain ⟨a1, a2, a3, a4⟩ := h.1 x hx
  exact ⟨a1, a2, a3, by rw [hD_wD, if_neg (fun q => hx (by rw [q]; exact hc))]; exact a4⟩, fun z => hg (h.2 z)⟩
theorem Fq.wD {S : List Nat} {a b : Hp} {c : Nat} {g : Int → UInt64} (h : Fq S a b) (hc : c ∈ S ∧ ¬ c = 22 ∧ ¬ c = 35 ∧ ¬ c = 57) : Fq S a (wD b c g) := h.wR hc.1 (fun z k k0 k1 => by
  rw [hD_wD, if_neg (fun q => hc.2.1 q.symm), hD_wD, if_neg (fun q => hc.2.2.1 q.symm), hD_wD, if_neg (fun q => hc.2.2.2 q.symm)]
  exact z k k0 k1)
