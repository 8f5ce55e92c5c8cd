/-! ===== class and reference: behind START ===== -/
section RSU
variable {τ ν : Hp} {N S : Nat}
abbrev MoC : List Nat := [101, 102, 104] ++ BgC
theorem fo_mo {re : Int → Int} : FqO MoC ν (moH ν N S re) := by
  have h1 : FqO MoC ν (mdH ν re) := (FqO.rf.wI (by decide)).wI (by decide)
  have h2 : FqO MoC (mdH ν re) (begH (mdH ν re) N) := fo_beg.weak (by decide)
  have h3 : FqO MoC (begH (mdH ν re) N) (clH (begH (mdH ν re) N) S) := FqO.rf.wI (by decide)
  have h4 : FqO MoC (clH (begH (mdH ν re) N) S) (moH ν N S re) := (FqO.rf.wD (by decide)).wI (by decide)
  exact ((h1.trans h2).trans h3).trans h4
theorem tws_cl {σ ω : Hp} {fr : Int → Int} {seD : Int → UInt64} {seF : Int → UInt32} {nn : Int → Int} {L : List Int} {PD : Pt UInt64} {PF : Pt UInt32} {TD : Ts UInt64} {TF : Ts UInt32} (h : Tws σ fr seD seF nn L N PD PF TD TF) (e : cls ω = cls σ) : Tws ω fr seD seF nn L N PD PF TD TF := by
  have h1 : Tws (cls σ) fr seD seF nn L N PD PF TD TF := h
  rw [← e] at h1
  exact h1
theorem row_cl {σ ω : Hp} (e : cls ω = cls σ) : (∀ c : Nat, c < 69 → hI ω c = hI σ c) ∧ (∀ c : Nat, c < 69 → hL ω c = hL σ c) ∧ (∀ c : Nat, c < 69 → hD ω c = hD σ c) := by
  refine ⟨fun c h => ?_, fun c h => ?_, fun c h => ?_⟩
  · have h1 : hI (cls σ) c = hI σ c := if_pos h
    have h2 : hI (cls ω) c = hI ω c := if_pos h
    rw [← h1, ← h2, e]
  · have h1 : hL (cls σ) c = hL σ c := if_pos h
    have h2 : hL (cls ω) c = hL ω c := if_pos h
    rw [← h1, ← h2, e]
  · have h1 : hD (cls σ) c = hD σ c := if_pos h
    have h2 : hD (cls ω) c = hD ω c := if_pos h
    rw [← h1, ← h2, e]
/-- the twins of the reference behind START -/
theorem st_tw {rD : Int → UInt64} {rF : Int → UInt32} {re : Int → Int} (h : RlN τ N S) (hk : (chk (hI τ 70) (hI τ 72) (hI τ 75) N).1 = 0) (em : mdl ν = mdl τ) :
    ptD (moH ν N S re) N = StP τ N ∧ ptF (moH ν N S re) N = StQ τ N ∧ TAg (StP τ N) (gT0 (hD τ 74) (hD τ 71) (StP τ N) rD) (tsD (moH ν N S re)) ∧ TAg (StQ τ N) (gT0F (hD τ 74) (hD τ 71) (StQ τ N) rF) (tsF (moH ν N S re)) ∧ hI (moH ν N S re) 87 = lms (pw (hI τ 87) (fun _ => -1) N) 0 (StB τ N rD rF) ∧
    (∀ m : Int, 0 ≤ m → m < N → hD (moH ν N S re) 82 m ≠ 9223372036854775808 ∧ hF (moH ν N S re) 83 m ≠ 2147483648) := by
  obtain ⟨rI, rFF, rDD⟩ := row_md em
  obtain ⟨w1, w2⟩ := st_wo h hk
  have p3 := h.2.2.1.2.2.1
  have e70 : hI (mdH ν re) 70 = hI τ 70 := rI 70 (by decide)
  have e71 : hD (mdH ν re) 71 = hD τ 71 := rDD 71 (by decide)
  have e72 : hI (mdH ν re) 72 = hI τ 72 := rI 72 (by decide)
  have e73 : hI (mdH ν re) 73 = hI τ 73 := rI 73 (by decide)
  have e74 : hD (mdH ν re) 74 = hD τ 74 := rDD 74 (by decide)
  have e75 : hI (mdH ν re) 75 = hI τ 75 := rI 75 (by decide)
  have e76 : hD (mdH ν re) 76 = hD τ 76 := rDD 76 (by decide)
  have e77 : hD (mdH ν re) 77 = hD τ 77 := rDD 77 (by decide)
  have e87 : hI (mdH ν re) 87 = hI τ 87 := rI 87 (by decide)
  have enn : nnR (mdH ν re) = nnR τ := by unfold nnR; rw [e71]
  have e69 : hI (mdH ν re) 69 13 = hI τ 69 13 := by
    show fup (hI ν 69) 11 1 13 = _
    rw [fup_n (by decide), rI 69 (by decide)]
  have eo : ords (lvs (hI τ 70) (hI τ 72) (hI (mdH ν re) 79) N) N = ords (lvC (hI τ 70) (hI τ 72) N) N := ords_ag (lvs_ag p3)
  have k1 : ptD (begH (mdH ν re) N) N = StP τ N := by
    rw [beg_pD, e70, e71, e72, e73, e75, e76, e77, enn, e69, eo]
  have k2 : ptF (begH (mdH ν re) N) N = StQ τ N := by
    rw [beg_pF, e70, e71, e72, e73, e75, e76, e77, enn, e69, eo]
  have aD := beg_agD (σ := mdH ν re) (N := N) (r := rD) (by rw [k1]; exact w1)
  have aF := beg_agF (σ := mdH ν re) (N := N) (r := rF) (by rw [k2]; exact w2)
  have lm := beg_lm (σ := mdH ν re) (N := N)
  have tD := beg_tD (σ := mdH ν re) (N := N)
  have tF := beg_tF (σ := mdH ν re) (N := N)
  rw [k1, e74, e71] at aD
  rw [k2, e74, e71] at aF
  rw [k1, k2, e74, e87] at lm
  rw [k1, e74] at tD
  rw [k2, e74] at tF
  have i1 : ptD (moH ν N S re) N = ptD (begH (mdH ν re) N) N := rfl
  have i2 : ptF (moH ν N S re) N = ptF (begH (mdH ν re) N) N := rfl
  have i3 : tsD (moH ν N S re) = tsD (begH (mdH ν re) N) := rfl
  have i4 : tsF (moH ν N S re) = tsF (begH (mdH ν re) N) := rfl
  have i5 : hI (moH ν N S re) 87 = hI (begH (mdH ν re) N) 87 := rfl
  have i6 : hD (moH ν N S re) 82 = (tsD (begH (mdH ν re) N)).1 := rfl
  have i7 : hF (moH ν N S re) 83 = (tsF (begH (mdH ν re) N)).1 := rfl
  rw [i1, i2, i3, i4, i5, i6, i7]
  refine ⟨k1, k2, aD.1, aF.1, ?_, fun m x y => ?_⟩
  · rw [lm, ← aD.2, ← aF.2]
  · rw [tD, tF]
    exact ⟨gRd_nzD (w1.2.2.2.1 m x y), gRd_nzF (w2.2.2.2.1 m x y)⟩
theorem st_apra {re : Int → Int} (em : mdl ν = mdl τ) : (∀ m : Int, 0 ≤ m → m < N → hD (moH ν N S re) 88 m = gdf (hD (moH ν N S re) 82 m) (hF (moH ν N S re) 83 m) FP.dconst0 ∧ hD (moH ν N S re) 89 m = (if hI τ 70 m = 2 then (gsum arD (hI τ 72) (hI τ 73) (hD (moH ν N S re) 82) m 6).1 else FP.dconst0)) ∧ (∀ m : Int, (N : Int) ≤ m → hD (moH ν N S re) 88 m = hD τ 88 m ∧ hD (moH ν N S re) 89 m = hD τ 89 m) := by
  obtain ⟨rI, rFF, rDD⟩ := row_md em
  have ap := beg_ap (σ := mdH ν re) (N := N)
  have ra := beg_ra (σ := mdH ν re) (N := N)
  have e70 : hI (mdH ν re) 70 = hI τ 70 := rI 70 (by decide)
  have e72 : hI (mdH ν re) 72 = hI τ 72 := rI 72 (by decide)
  have e73 : hI (mdH ν re) 73 = hI τ 73 := rI 73 (by decide)
  have e88 : hD (mdH ν re) 88 = hD τ 88 := rDD 88 (by decide)
  have e89 : hD (mdH ν re) 89 = hD τ 89 := rDD 89 (by decide)
  rw [e88] at ap
  rw [e70, e72, e73, e89] at ra
  have i6 : hD (moH ν N S re) 82 = (tsD (begH (mdH ν re) N)).1 := rfl
  have i7 : hF (moH ν N S re) 83 = (tsF (begH (mdH ν re) N)).1 := rfl
  have i8 : hD (moH ν N S re) 88 = hD (begH (mdH ν re) N) 88 := rfl
  have i9 : hD (moH ν N S re) 89 = hD (begH (mdH ν re) N) 89 := rfl
  rw [i6, i7, i8, i9, ap, ra]
  generalize (tsD (begH (mdH ν re) N)).1 = a
  generalize (tsF (begH (mdH ν re) N)).1 = b
  refine ⟨fun m x y => ⟨?_, ?_⟩, fun m x => ⟨?_, ?_⟩⟩
  · rw [pw_lo x y, pw_lo x y]
  · rw [pw_lo x y]
  · rw [pw_hi x, pw_hi x]
  · rw [pw_hi x]
end RSU
