/-! ===== settings are bounded ===== -/
theorem dwi_key {s lo hi : UInt64} (hs : vf_n64 s) (hl : FP.Core.val64 lo ≠ .nan) (hh : FP.Core.val64 hi ≠ .nan) (h : dwi s lo hi) : FP.Core.dkey lo ≤ FP.Core.dkey s ∧ FP.Core.dkey s ≤ FP.Core.dkey hi := by
  have hsn := (FP.Core.ne_nan s).mpr (vn64.mp hs)
  unfold dwi at h
  constructor
  · rcases h.1 with w | w
    · exact Int.le_of_lt ((FP.Core.dcmp_gt_key hsn hl).mp w)
    · exact Int.le_of_eq ((FP.Core.dcmp_eq_key hsn hl).mp w).symm
  · rcases h.2 with w | w
    · exact Int.le_of_lt ((FP.Core.dcmp_lt_key hsn hh).mp w)
    · exact Int.le_of_eq ((FP.Core.dcmp_eq_key hsn hh).mp w)
theorem set_bd {k : Int} {s : UInt64} (hs : vf_n64 s) (h : isSet k s = true) (hk : k = 10 ∨ k = 12) : s.toNat % 2 ^ 63 ≤ 4609434218613702656 := by
  rcases hk with hk | hk
  · subst hk
    have h : decide (dwi s 13830554455654793216 FP.dconst1) = true := h
    have q := dwi_key hs (by decide +kernel) (by decide +kernel) (of_decide_eq_true h)
    have e1 : FP.Core.dkey 13830554455654793216 = -4607182418800017408 := by decide +kernel
    have e2 : FP.Core.dkey FP.dconst1 = 4607182418800017408 := by decide +kernel
    rw [e1, e2] at q
    have := key_bd (c := 4607182418800017408) q.1 q.2
    omega
  · subst hk
    have h : decide (dwi s FP.dconst0 4609434218613702656) = true := h
    have q := dwi_key hs (by decide +kernel) (by decide +kernel) (of_decide_eq_true h)
    have e1 : FP.Core.dkey FP.dconst0 = 0 := by decide +kernel
    have e2 : FP.Core.dkey 4609434218613702656 = 4609434218613702656 := by decide +kernel
    rw [e1, e2] at q
    have := key_bd (c := 4609434218613702656) (by omega) q.2
    omega
theorem set_bdD {k : Int} {s : UInt64} (hs : vf_n64 s) (h : isSet k s = true) (hk : k = 10 ∨ k = 12) : BdD s ∧ BdF (FP.d2f s) := ⟨mg_15 (set_bd hs h hk), mf_15 (d2f_15 (set_bd hs h hk))⟩
