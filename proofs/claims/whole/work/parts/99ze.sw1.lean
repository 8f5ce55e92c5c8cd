/-! ===== towards sweep ===== -/
section RSA
variable {σ : Hp} {N S : Nat}
theorem gT0_ag {P : Pt UInt64} {b s r r' : Int → UInt64} (w : WO P) : TAg P (gT0 b s P r) (gT0 b s P r') := by
  have q := gRd_ag (A := arD) (row := fun j => b (j / 16)) (row' := fun j => b (j / 16)) (st := b) (st' := b) (r := r) (r' := r') w (fun _ _ _ => rfl) (fun _ _ _ => rfl)
  exact ⟨q.1, fun _ _ _ => rfl, fun _ _ _ => rfl, fun _ _ _ _ => rfl⟩
theorem fup_fup {α : Type} (f : Int → α) (m : Int) (a b : α) : fup (fup f m a) m b = fup f m b := by
  funext k
  unfold fup
  by_cases e : k = m
  · rw [if_pos e, if_pos e]
  · rw [if_neg e, if_neg e, if_neg e]
theorem sv_fup {m : Int} {v : UInt64} (h : RlN σ N S) : svC σ m v = fup (hD σ 71) m v := by
  funext k
  unfold svC fup
  rw [h.2.1.2.2.1]
theorem wo_sw {m : Int} {v : UInt64} (h : RlN σ N S) (hk : (chk (hI σ 70) (hI σ 72) (hI σ 75) N).1 = 0) (hv : vf_n64 v) (hs : isSet (hI σ 70 m) v = true) : WO (StP (swX σ m v) N) := wo_of (σ := swX σ m v) ((RlN.wp h hk).set hv hs) hk rfl rfl rfl rfl rfl (fun _ _ _ => rfl)
theorem sw_71 {k : Nat} {m q : Int} {x y : UInt64} {n : Nat} {v : UInt64} {ω : Hp} : ∀ j : Nat, fup (hD (swS ω N k m q x y n j) 71) m v = fup (hD ω 71) m v
  | 0 => rfl
  | j + 1 => by
    have e : hD (swS ω N k m q x y n (j + 1)) 71 = fup (hD (swS ω N k m q x y n j) 71) m (swv x y j) := by
      show hD (trH (swX (swS ω N k m q x y n j) m (swv x y j)) N n (lenD k)) 71 = _
      rw [fo_tr.D (by decide)]; rfl
    rw [e, fup_fup, sw_71 j]
end RSA
