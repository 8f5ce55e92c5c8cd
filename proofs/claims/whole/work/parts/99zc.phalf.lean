/-! ===== class and reference: halved ===== -/
section RHX
variable {σ ν χ : Hp} {N S : Nat}
theorem tr_val {r : Int → UInt64} {n : Nat} {t : UInt64} {q : Int} (w : WO (ptD (begH χ N) N)) (hq : 0 ≤ q ∧ q < N) : (gsn arD zcD (ptD (begH χ N) N) t (FP.ddiv t 4611686018427387904) (gT0 (hD χ 74) (hD χ 71) (ptD (begH χ N) N) r) n).1 q = hD (trH χ N n t) 82 q := by
  have a := (gsn_ag (A := arD) (z := zcD) (h := t) (h2 := FP.ddiv t 4611686018427387904) w (beg_agD (σ := χ) (r := r) w).1 n).1 q hq.1 hq.2
  rw [a]
  have e := tr_vw (σ := χ) (N := N) (n := n) (t := t)
  show _ = (tsD (trH χ N n t)).1 q
  rw [e]
theorem ggp_cg {W H W' H' : Nat → UInt64} : ∀ n : Nat, (∀ j : Nat, j < n → W j = W' j ∧ H j = H' j) → ggp W H n = ggp W' H' n
  | 0, _ => rfl
  | n + 1, h => by
    have ih := ggp_cg n (fun j hj => h j (by omega))
    unfold ggp
    rw [ih, (h n (by omega)).1, (h n (by omega)).2]
theorem ggp_nn {W H : Nat → UInt64} : ∀ n : Nat, (∀ j : Nat, j < n → mg (W j) 1024 ∧ mg (H j) 1024) → (ggp W H n).toNat < 1026 * 2 ^ 52
  | 0, _ => by unfold ggp; decide
  | n + 1, h => by
    have ih := ggp_nn n (fun j hj => h j (by omega))
    obtain ⟨a, b⟩ := h n (by omega)
    unfold ggp
    by_cases g : FP.dcmp (szD (FP.dsub (W n) (H n))) (ggp W H n) = some .gt
    · rw [if_pos g]
      have m : mg (szD (FP.dsub (W n) (H n))) 1026 := szD_mg (mg_sub a b (by decide))
      have n1 := (FP.Core.ne_nan (szD (FP.dsub (W n) (H n)))).mpr (vn64.mp (m.nn (by decide)))
      have n2 := (FP.Core.ne_nan (ggp W H n)).mpr (by omega)
      have g : FP.Core.dcmp (szD (FP.dsub (W n) (H n))) (ggp W H n) = some .gt := g
      rw [FP.Core.dcmp_gt_key n1 n2] at g
      unfold FP.Core.dkey at g
      unfold mg at m
      rw [if_neg (by omega)] at g
      split at g <;> omega
    · rw [if_neg g]; exact ih
/-- what the class's trials need -/
theorem tri_of {c : Int} {v : UInt64} (h : RlN σ N S) (h3 : hI σ 3 3 = 0) (hk : (chk (hI σ 70) (hI σ 72) (hI σ 75) N).1 = 0) (hc : inR c) (hv : ∀ m : Int, 0 ≤ m → m < N → vf_n64 (svC σ c v m) ∧ isSet (hI σ 70 m) (svC σ c v m) = true) : Tri σ (hI σ 72) c v (fun m => (FP.d2i (svC σ c v m)).toInt) (ords (lvC (hI σ 70) (hI σ 72) N) N) N := by
  have hct := RlN.ct h
  have wp := RlN.wp h hk
  have lev := RlN.lev h h3
  obtain ⟨hA, hB, hP, hLa, hS, hW, hM, hO⟩ := h
  obtain ⟨b1, b2, b3, b4, b5, b6, b7, b8, b9, b10, b11⟩ := hB
  have n20 := hA.1.2.2
  refine ⟨hct, hA.2.2.2.2.2.2.2.2.2.2.2, hc, fun m x y => ?_, ?_, fun m x y => ?_⟩
  · obtain ⟨⟨g1, g2, g3, g4, g5, g6, g7⟩, ⟨x1, x2⟩, _⟩ := wp.2.2.2 m x y
    rw [b1, b8, b9, b10]
    exact ⟨g4, g5, x1, fun k => (x2 k).1⟩
  · have := lev.2.2
    rw [b1] at this
    exact this
  · obtain ⟨q2, q3⟩ := hv m x y
    rw [b1, b5]
    refine ⟨q2, hP.2.2.2.2.2.2.2.2.1 m x (by omega), fun k => (set_bdD q2 q3 k).1, fun k => ?_⟩
    rw [k] at q3
    have d := delay_sc q2 q3
    exact ⟨d.1, d.2.1⟩
theorem sv_1 (h : RlN σ N S) : svC σ (-1) FP.dconst0 = hD σ 71 := by
  funext m
  unfold svC
  by_cases e : m = -1
  · rw [if_pos e, e, h.2.2.1.2.1]
  · rw [if_neg e, h.2.1.2.2.1]
theorem hv_69 {k : Nat} {x : Int} (h1 : ¬ x = 12) (h2 : ¬ x = 44) : ∀ n : Nat, hI (hvH χ N k n) 69 x = hI χ 69 x
  | 0 => rfl
  | n + 1 => by
    show hI (trH (trH (hvH χ N k n) N (n + 1) (lenD k)) N (2 * (n + 1)) (lenD (k + 1))) 69 x = _
    rw [tr_69 h1 h2, tr_69 h1 h2, hv_69 h1 h2 n]
theorem hv_zt {k : Nat} (h : Zt χ N) : ∀ n : Nat, Zt (hvH χ N k n) N
  | 0 => h
  | n + 1 => zt_tr (zt_tr (hv_zt h n))
theorem beg_st {S2 : List Nat} (h : RlN σ N S) (F : FqO S2 σ χ) (hS : 70 ∉ S2 ∧ 71 ∉ S2 ∧ 72 ∉ S2 ∧ 73 ∉ S2 ∧ 74 ∉ S2 ∧ 75 ∉ S2 ∧ 76 ∉ S2 ∧ 77 ∉ S2) (e13 : hI χ 69 13 = hI σ 69 13) : ptD (begH χ N) N = StP σ N ∧ hD χ 74 = hD σ 74 ∧ hD χ 71 = hD σ 71 := by
  obtain ⟨s0, s1, s2, s3, s4, s5, s6, s7⟩ := hS
  have enn : nnR χ = nnR σ := by unfold nnR; rw [F.D s1]
  have eo : ords (lvs (hI σ 70) (hI σ 72) (hI χ 79) N) N = ords (lvC (hI σ 70) (hI σ 72) N) N := ords_ag (lvs_ag h.2.2.1.2.2.1)
  refine ⟨?_, F.D s4, F.D s1⟩
  rw [beg_pD, F.I s0, F.D s1, F.I s2, F.I s3, F.D s6, F.D s7, F.I s5, enn, e13, eo]
end RHX
