/-! ===== the cells of the reference's sweep ===== -/
section RSC
variable {σ ω : Hp} {N k n : Nat} {m q : Int} {x y : UInt64}
theorem fo_sw : ∀ j : Nat, FqO (103 :: 71 :: TrR) (kpH σ) (swS (swK σ m) N k m q x y n j)
  | 0 => (FqO.rf.wD (by decide) : FqO (103 :: 71 :: TrR) (kpH σ) (swK σ m))
  | j + 1 => by
    have h1 : FqO (103 :: 71 :: TrR) (swS (swK σ m) N k m q x y n j) (swX (swS (swK σ m) N k m q x y n j) m (swv x y j)) := FqO.rf.wD (by decide)
    have h2 : FqO (103 :: 71 :: TrR) (swX (swS (swK σ m) N k m q x y n j) m (swv x y j)) (trH (swX (swS (swK σ m) N k m q x y n j) m (swv x y j)) N n (lenD k)) := fo_tr.weak (by decide)
    have h3 : FqO (103 :: 71 :: TrR) (trH (swX (swS (swK σ m) N k m q x y n j) m (swv x y j)) N n (lenD k)) (swS (swK σ m) N k m q x y n (j + 1)) := FqO.rf.wD (by decide)
    exact (((fo_sw j).trans h1).trans h2).trans h3
theorem sw_69 {i : Int} (h1 : ¬ i = 12) (h2 : ¬ i = 44) : ∀ j : Nat, hI (swS ω N k m q x y n j) 69 i = hI ω 69 i
  | 0 => rfl
  | j + 1 => by
    show hI (trH (swX (swS ω N k m q x y n j) m (swv x y j)) N n (lenD k)) 69 i = _
    rw [tr_69 h1 h2]
    exact sw_69 h1 h2 j
theorem sw_59 : ∀ j : Nat, hD (swS ω N k m q x y n j) 69 59 = hD ω 69 59
  | 0 => rfl
  | j + 1 => by
    show hD (trH (swX (swS ω N k m q x y n j) m (swv x y j)) N n (lenD k)) 69 59 = _
    rw [tr_69D, fup_n (by decide)]
    exact sw_59 j
theorem sw_zt (h : Zt ω N) : ∀ j : Nat, Zt (swS ω N k m q x y n j) N
  | 0 => h
  | j + 1 => zt_tr (σ := swX (swS ω N k m q x y n j) m (swv x y j)) (sw_zt h j)
end RSC
