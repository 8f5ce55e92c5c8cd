/-! ===== readings are not -0.0; what a twin needs, over changes elsewhere ===== -/
theorem gaft_nzD (v : UInt64) : (gaft arD v).1 ≠ 9223372036854775808 := by
  unfold gaft
  by_cases a : Acm arD v (Ac arD 3) = some .gt ∨ Acm arD v (Ac arD 4) = some .lt
  · rw [if_pos a]
    show (if Acm arD v (Ac arD 0) = some .gt then Ac arD 3 else Ac arD 4) ≠ 9223372036854775808
    by_cases b : Acm arD v (Ac arD 0) = some .gt
    · rw [if_pos b]; decide +kernel
    · rw [if_neg b]; decide +kernel
  · rw [if_neg a]
    show (if Acm arD v (Ac arD 0) = some .eq then Ac arD 0 else v) ≠ 9223372036854775808
    by_cases b : Acm arD v (Ac arD 0) = some .eq
    · rw [if_pos b]; decide +kernel
    · rw [if_neg b]
      intro e
      subst e
      exact b (by decide +kernel)
theorem gread_nzD {E : Ev UInt64} : ∀ (l : List Int) (s : (Int → UInt64) × (Int → Bool)) (m : Int), m ∈ l ∨ s.1 m ≠ 9223372036854775808 → (gread arD E l s).1 m ≠ 9223372036854775808
  | [], s, m, h => by
    rcases h with h | h
    · cases h
    · exact h
  | x :: l, s, m, h => by
    refine gread_nzD l (gone arD E s x) m ?_
    by_cases e : m = x
    · refine Or.inr ?_
      show fup s.1 x (gaft arD (gmE arD E s.1 x).1).1 m ≠ 9223372036854775808
      rw [e, fup_s]
      exact gaft_nzD _
    · rcases h with h | h
      · rcases List.mem_cons.mp h with h | h
        · exact absurd h e
        · exact Or.inl h
      · refine Or.inr ?_
        show fup s.1 x (gaft arD (gmE arD E s.1 x).1).1 m ≠ 9223372036854775808
        unfold fup
        rw [if_neg e]
        exact h
theorem gRd_nzD {P : Pt UInt64} {row st r : Int → UInt64} {m : Int} (h : m ∈ pOr P) : (gRd arD P row st r).1 m ≠ 9223372036854775808 := gread_nzD _ _ m (Or.inl h)
theorem gstep_nzD {z : Int → UInt64} {P : Pt UInt64} {a b : UInt64} {T : Ts UInt64} {m : Int} (h : m ∈ pOr P) : (gstep arD z P a b T).1.1 m ≠ 9223372036854775808 := gRd_nzD h
theorem gaft_nzF (v : UInt32) : (gaft arF v).1 ≠ 2147483648 := by
  unfold gaft
  by_cases a : Acm arF v (Ac arF 3) = some .gt ∨ Acm arF v (Ac arF 4) = some .lt
  · rw [if_pos a]
    show (if Acm arF v (Ac arF 0) = some .gt then Ac arF 3 else Ac arF 4) ≠ 2147483648
    by_cases b : Acm arF v (Ac arF 0) = some .gt
    · rw [if_pos b]; decide +kernel
    · rw [if_neg b]; decide +kernel
  · rw [if_neg a]
    show (if Acm arF v (Ac arF 0) = some .eq then Ac arF 0 else v) ≠ 2147483648
    by_cases b : Acm arF v (Ac arF 0) = some .eq
    · rw [if_pos b]; decide +kernel
    · rw [if_neg b]
      intro e
      subst e
      exact b (by decide +kernel)
theorem gread_nzF {E : Ev UInt32} : ∀ (l : List Int) (s : (Int → UInt32) × (Int → Bool)) (m : Int), m ∈ l ∨ s.1 m ≠ 2147483648 → (gread arF E l s).1 m ≠ 2147483648
  | [], s, m, h => by
    rcases h with h | h
    · cases h
    · exact h
  | x :: l, s, m, h => by
    refine gread_nzF l (gone arF E s x) m ?_
    by_cases e : m = x
    · refine Or.inr ?_
      show fup s.1 x (gaft arF (gmE arF E s.1 x).1).1 m ≠ 2147483648
      rw [e, fup_s]
      exact gaft_nzF _
    · rcases h with h | h
      · rcases List.mem_cons.mp h with h | h
        · exact absurd h e
        · exact Or.inl h
      · refine Or.inr ?_
        show fup s.1 x (gaft arF (gmE arF E s.1 x).1).1 m ≠ 2147483648
        unfold fup
        rw [if_neg e]
        exact h
theorem gRd_nzF {P : Pt UInt32} {row st r : Int → UInt32} {m : Int} (h : m ∈ pOr P) : (gRd arF P row st r).1 m ≠ 2147483648 := gread_nzF _ _ m (Or.inl h)
theorem gstep_nzF {z : Int → UInt32} {P : Pt UInt32} {a b : UInt32} {T : Ts UInt32} {m : Int} (h : m ∈ pOr P) : (gstep arF z P a b T).1.1 m ≠ 2147483648 := gRd_nzF h
section CXF
variable {σ τ : Hp} {S : List Nat}
theorem CtI.frm {fr : Int → Int} {N : Nat} (h : CtI σ fr N) (F : Fq S σ τ) (hS : 3 ∉ S ∧ 4 ∉ S ∧ 9 ∉ S ∧ 10 ∉ S) : CtI τ fr N := by
  obtain ⟨s3, s4, s9, s10⟩ := hS
  unfold CtI at *
  rw [F.I s3, F.I s4, F.I s9, F.I s10]
  exact h
theorem Cxd_fr {fr : Int → Int} {se : Int → UInt64} {nn : Int → Int} {row : Int → UInt64} {L : List Int} {N : Nat} {P : Pt UInt64} (h : Cxd σ fr se nn row L N P) (F : Fq S σ τ) (hS : 3 ∉ S ∧ 4 ∉ S ∧ 9 ∉ S ∧ 10 ∉ S ∧ 11 ∉ S ∧ 12 ∉ S ∧ 13 ∉ S ∧ 15 ∉ S ∧ 17 ∉ S ∧ 21 ∉ S ∧ 23 ∉ S ∧ 25 ∉ S ∧ 26 ∉ S) : Cxd τ fr se nn row L N P := by
  obtain ⟨s3, s4, s9, s10, s11, s12, s13, s15, s17, sb, sse, srw, sol⟩ := hS
  unfold Cxd Pcd CtI PatW OrdC at *
  rw [F.I s3, F.I s4, F.I s9, F.I s10, F.I s11, F.D s12, F.D s13, F.I s15, F.I s17, F.I sb, F.D sse, F.D srw, F.I sol]
  exact h
theorem Rdd_fr {r : Int → UInt64} {N : Nat} (h : Rdd σ r N) (F : Fq S σ τ) (hS : 22 ∉ S) : Rdd τ r N := by
  unfold Rdd at *
  rw [F.D hS]
  exact h
theorem Std_fr {r : Int → UInt64} {N : Nat} (h : Std σ r N) (F : Fq S σ τ) (hS : 24 ∉ S) : Std τ r N := by
  unfold Std at *
  rw [F.D hS]
  exact h
theorem Sdd_fr {r : Int → Int} {N : Nat} (h : Sdd σ r N) (F : Fq S σ τ) (hS : 27 ∉ S ∧ 4 ∉ S) : Sdd τ r N := by
  unfold Sdd at *
  rw [F.I hS.1, F.I hS.2]
  exact h
theorem Lpd_fr {N : Nat} (h : Lpd σ N) (F : Fq S σ τ) (hS : 19 ∉ S ∧ 20 ∉ S) : Lpd τ N := by
  unfold Lpd at *
  rw [F.I hS.1, F.I hS.2]
  exact h
theorem Cxf_fr {fr : Int → Int} {se : Int → UInt32} {nn : Int → Int} {row : Int → UInt32} {L : List Int} {N : Nat} {P : Pt UInt32} (h : Cxf σ fr se nn row L N P) (F : Fq S σ τ) (hS : 3 ∉ S ∧ 4 ∉ S ∧ 9 ∉ S ∧ 10 ∉ S ∧ 11 ∉ S ∧ 12 ∉ S ∧ 13 ∉ S ∧ 15 ∉ S ∧ 17 ∉ S ∧ 34 ∉ S ∧ 36 ∉ S ∧ 38 ∉ S ∧ 39 ∉ S) : Cxf τ fr se nn row L N P := by
  obtain ⟨s3, s4, s9, s10, s11, s12, s13, s15, s17, sb, sse, srw, sol⟩ := hS
  unfold Cxf Pcf CtI PatW OrdC at *
  rw [F.I s3, F.I s4, F.I s9, F.I s10, F.I s11, F.D s12, F.D s13, F.I s15, F.I s17, F.I sb, F.D sse, F.D srw, F.I sol]
  exact h
theorem Rdf_fr {r : Int → UInt32} {N : Nat} (h : Rdf σ r N) (F : Fq S σ τ) (hS : 35 ∉ S) : Rdf τ r N := by
  unfold Rdf at *
  rw [F.D hS]
  exact h
theorem Stf_fr {r : Int → UInt32} {N : Nat} (h : Stf σ r N) (F : Fq S σ τ) (hS : 37 ∉ S) : Stf τ r N := by
  unfold Stf at *
  rw [F.D hS]
  exact h
theorem Sdf_fr {r : Int → Int} {N : Nat} (h : Sdf σ r N) (F : Fq S σ τ) (hS : 40 ∉ S ∧ 4 ∉ S) : Sdf τ r N := by
  unfold Sdf at *
  rw [F.I hS.1, F.I hS.2]
  exact h
theorem Lpf_fr {N : Nat} (h : Lpf σ N) (F : Fq S σ τ) (hS : 19 ∉ S ∧ 20 ∉ S) : Lpf τ N := by
  unfold Lpf at *
  rw [F.I hS.1, F.I hS.2]
  exact h
theorem Cxt_fr {fr : Int → Int} {se : Int → UInt64} {nn : Int → Int} {row : Int → UInt64} {L : List Int} {N : Nat} {P : Pt UInt64} (h : Cxt σ fr se nn row L N P) (F : Fq S σ τ) (hS : 3 ∉ S ∧ 4 ∉ S ∧ 9 ∉ S ∧ 10 ∉ S ∧ 11 ∉ S ∧ 12 ∉ S ∧ 13 ∉ S ∧ 15 ∉ S ∧ 17 ∉ S ∧ 56 ∉ S ∧ 58 ∉ S ∧ 60 ∉ S ∧ 61 ∉ S) : Cxt τ fr se nn row L N P := by
  obtain ⟨s3, s4, s9, s10, s11, s12, s13, s15, s17, sb, sse, srw, sol⟩ := hS
  unfold Cxt Pct CtI PatW OrdC at *
  rw [F.I s3, F.I s4, F.I s9, F.I s10, F.I s11, F.D s12, F.D s13, F.I s15, F.I s17, F.I sb, F.D sse, F.D srw, F.I sol]
  exact h
theorem Rdt_fr {r : Int → UInt64} {N : Nat} (h : Rdt σ r N) (F : Fq S σ τ) (hS : 57 ∉ S) : Rdt τ r N := by
  unfold Rdt at *
  rw [F.D hS]
  exact h
theorem Stt_fr {r : Int → UInt64} {N : Nat} (h : Stt σ r N) (F : Fq S σ τ) (hS : 59 ∉ S) : Stt τ r N := by
  unfold Stt at *
  rw [F.D hS]
  exact h
theorem Sdt_fr {r : Int → Int} {N : Nat} (h : Sdt σ r N) (F : Fq S σ τ) (hS : 62 ∉ S ∧ 4 ∉ S) : Sdt τ r N := by
  unfold Sdt at *
  rw [F.I hS.1, F.I hS.2]
  exact h
theorem Lpt_fr {N : Nat} (h : Lpt σ N) (F : Fq S σ τ) (hS : 54 ∉ S ∧ 55 ∉ S) : Lpt τ N := by
  unfold Lpt at *
  rw [F.I hS.1, F.I hS.2]
  exact h
end CXF
