/-! ===== decoded numbers against bits ===== -/
theorem isSet_inf (k : Int) : isSet k 9218868437227405312 = false ∧ isSet k 18442240474082181120 = false := by
  unfold isSet
  by_cases a : k = 10
  · rw [if_pos a, if_pos a]; exact ⟨by decide +kernel, by decide +kernel⟩
  · rw [if_neg a, if_neg a]
    by_cases b : k = 11
    · rw [if_pos b, if_pos b]; exact ⟨by decide +kernel, by decide +kernel⟩
    · rw [if_neg b, if_neg b]
      by_cases c : k = 12
      · rw [if_pos c, if_pos c]; exact ⟨by decide +kernel, by decide +kernel⟩
      · rw [if_neg c, if_neg c]
        by_cases d : k = 13
        · rw [if_pos d, if_pos d]; exact ⟨by decide +kernel, by decide +kernel⟩
        · rw [if_neg d, if_neg d]; exact ⟨by decide +kernel, by decide +kernel⟩
theorem dec_cases (x : Int64) : (dec x = x.toUInt64 ∧ isNum x) ∨ ((dec x = 9218868437227405312 ∨ dec x = 18442240474082181120) ∧ ¬ isNum x) := by
  have hlt : x.toUInt64.toNat < 2 ^ 64 := UInt64.toNat_lt _
  by_cases a : x.toUInt64.toNat % 2 ^ 63 < 2047 * 2 ^ 52
  · exact Or.inl ⟨if_pos a, isNum_iff.mpr (by omega)⟩
  · have e : dec x = (if x.toUInt64.toNat < 2 ^ 63 then 9218868437227405312 else 18442240474082181120) := if_neg a
    by_cases n : isNum x
    · have n2 := isNum_iff.mp n
      refine Or.inl ⟨?_, n⟩
      rw [e]
      apply UInt64.toNat_inj.mp
      by_cases b : x.toUInt64.toNat < 2 ^ 63
      · rw [if_pos b]; show 9218868437227405312 = x.toUInt64.toNat; omega
      · rw [if_neg b]; show 18442240474082181120 = x.toUInt64.toNat; omega
    · refine Or.inr ⟨?_, n⟩
      rw [e]
      by_cases b : x.toUInt64.toNat < 2 ^ 63
      · rw [if_pos b]; exact Or.inl rfl
      · rw [if_neg b]; exact Or.inr rfl
theorem set_dec {k : Int} {x : Int64} : isSet k (dec x) = true ↔ isNum x ∧ isSet k x.toUInt64 = true := by
  rcases dec_cases x with ⟨e, n⟩ | ⟨e, n⟩
  · rw [e]; exact ⟨fun h => ⟨n, h⟩, fun h => h.2⟩
  · refine ⟨fun h => ?_, fun h => absurd h.1 n⟩
    exfalso
    rcases e with e | e
    · rw [e, (isSet_inf k).1] at h; cases h
    · rw [e, (isSet_inf k).2] at h; cases h
theorem rg_dec {x : Int64} : inRg (dec x) ↔ isSml x = true := by
  have h := szD_le (v := dec x) (c := 4609434218613702656) (dec_nn x) (by decide) (vn64.mpr (by decide))
  have e15 : FP.dneg 4609434218613702656 = 13832806255468478464 := by decide +kernel
  rw [e15] at h
  unfold inRg isSml
  rw [h]
  rcases dec_cases x with ⟨e, n⟩ | ⟨e, n⟩
  · rw [e, decide_eq_true n, Bool.true_and]
    exact ⟨fun w => decide_eq_true w, fun w => of_decide_eq_true w⟩
  · rw [decide_eq_false n, Bool.false_and]
    refine ⟨fun w => ?_, fun w => by cases w⟩
    exfalso
    rcases e with e | e
    · rw [e] at w; revert w; decide +kernel
    · rw [e] at w; revert w; decide +kernel
/-- a setting kept: decoded, it is its bits -/
theorem set_bits {k : Int} {x : Int64} (h : isSet k (dec x) = true) : dec x = x.toUInt64 := by
  rcases dec_cases x with ⟨e, n⟩ | ⟨e, n⟩
  · exact e
  · exact absurd (set_dec.mp h).1 n
