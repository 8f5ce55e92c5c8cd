/-! ===== the panel: gaps, a step ===== -/
section PAN2
variable {σ : Hp} {Q : Option PV → Hp → Prop} {N : Nat}
def naH (σ : Hp) (rD : Int → UInt64) (rF : Int → UInt32) (N : Nat) : Hp := wD σ 2 (pw (hD σ 2) (fun m => gdf (rD m) (rF m) (hD σ 2 m)) N)
theorem cX_noteApart {rD : Int → UInt64} {rF : Int → UInt32} (hN : hI σ 3 0 = N ∧ N ≤ 20) (hd : Rdd σ rD N) (hf : Rdf σ rF N) (hQ : Q none (naH σ rD rF N)) : Sp mX_noteApart [vR 0] σ Q := by
  obtain ⟨hN, hN2⟩ := hN
  have loop : ∀ (n i : Nat), i ≤ N → N + 1 ≤ i + n → J mX_noteApart 2 [(0, vR 0), (1, vI i)] [] (naH σ rD rF i) Q := by
    intro n
    induction n with
    | zero => intro i h1 h2; exact absurd h2 (by omega)
    | succ n ih =>
      intro i h1 h2
      have eN : hI (naH σ rD rF i) 3 0 = N := hN
      have ih2 : i < N → J mX_noteApart 2 [(0, vR 0), (1, vI (i + 1))] [] (naH σ rD rF (i + 1)) Q := fun h => ih (i + 1) (by omega) (by omega)
      have eD : i < N → hD (naH σ rD rF i) 22 i = rD i := fun h => (hd i (by omega) (by omega)).1
      have eF : i < N → hD (naH σ rD rF i) 35 i = FP.f2d (rF i) := fun h => (hf i (by omega) (by omega)).1
      have eA : hD (naH σ rD rF i) 2 i = hD σ 2 i := pw_at (hD σ 2) (fun m => gdf (rD m) (rF m) (hD σ 2 m)) i
      have nd : i < N → vf_n64 (FP.dsub (rD i) (FP.f2d (rF i))) := fun h => vn64_of (FP.Core.dsub_out ((hd i (by omega) (by omega)).2.fin (by decide)).notNaN (f2d_fin2 (hf i (by omega) (by omega)).2 (by decide)))
      have eg : szD (FP.dsub (rD i) (FP.f2d (rF i))) = gap (rD i) (rF i) := rfl
      have yes : FP.dcmp (gap (rD i) (rF i)) (hD σ 2 i) = some .gt → naH σ rD rF (i + 1) = wD (naH σ rD rF i) 2 (fup (hD (naH σ rD rF i) 2) i (gap (rD i) (rF i))) := fun g => by
        unfold naH
        rw [← pw_s (hD σ 2) (fun m => gdf (rD m) (rF m) (hD σ 2 m)) i, wD_wD]
        have e : gdf (rD i) (rF i) (hD σ 2 i) = gap (rD i) (rF i) := if_pos g
        show wD σ 2 (fup _ (i : Int) (gdf (rD i) (rF i) (hD σ 2 i))) = _
        rw [e]
        rfl
      have no : ¬ FP.dcmp (gap (rD i) (rF i)) (hD σ 2 i) = some .gt → naH σ rD rF (i + 1) = naH σ rD rF i := fun g => by
        unfold naH
        have e : gdf (rD i) (rF i) (hD σ 2 i) = hD σ 2 i := if_neg g
        rw [← pw_s (hD σ 2) (fun m => gdf (rD m) (rF m) (hD σ 2 m)) i]
        show wD σ 2 (fup (pw (hD σ 2) (fun m => gdf (rD m) (rF m) (hD σ 2 m)) i) (i : Int) (gdf (rD i) (rF i) (hD σ 2 i))) = _
        rw [e]
        congr 1
        funext k
        unfold fup
        by_cases c : k = i
        · rw [if_pos c, c, pw_at]
        · rw [if_neg c]
      refine j_iload_n (p2 := 3) dX_noteApart_2 rfl rfl ?_
      refine j_aload_n (p2 := 4) dX_noteApart_3 rfl rfl ?_
      refine j_getR (p2 := 7) dX_noteApart_4 rfl fa_X_10 ly_0 rfl ?_
      refine j_getIk (p2 := 10) dX_noteApart_7 rfl fa_X_82 ly_3 rfl (ki := 0) rfl ?_
      refine j_icmp_ge (p2 := 13) (tg := 60) dX_noteApart_10 rfl (by decide) (by constructor <;> omega) (by rw [eN]; constructor <;> omega) (fun h10 => ?_) (fun h10 => ?_)
      · refine j_return dX_noteApart_60 rfl (by rw [eN] at h10; have e : i = N := (by omega); subst e; exact hQ)
      · refine J.loc (lv' := [(0, _), (1, _)]) ⟨rfl, rfl, trivial⟩ ?_
        rw [eN] at h10
        refine j_aload_n (p2 := 14) dX_noteApart_13 rfl rfl ?_
        refine j_getR (p2 := 17) dX_noteApart_14 rfl fa_X_37 ly_0 rfl ?_
        refine j_getR (p2 := 20) dX_noteApart_17 rfl fa_X_182 ly_21 rfl ?_
        refine j_iload_n (p2 := 21) dX_noteApart_20 rfl rfl ?_
        refine j_dald (p2 := 22) dX_noteApart_21 rfl ly_22 (by decide) (by omega) (by omega) ?_
        refine j_aload_n (p2 := 23) dX_noteApart_22 rfl rfl ?_
        refine j_getR (p2 := 26) dX_noteApart_23 rfl fa_X_41 ly_0 rfl ?_
        refine j_getR (p2 := 29) dX_noteApart_26 rfl fa_X_182 ly_34 rfl ?_
        refine j_iload_n (p2 := 30) dX_noteApart_29 rfl rfl ?_
        refine j_dald (p2 := 31) dX_noteApart_30 rfl ly_35 (by decide) (by omega) (by omega) ?_
        refine j_dsub (p2 := 32) dX_noteApart_31 rfl (by rw [eD (by omega), eF (by omega)]; exact nd (by omega)) ?_
        refine j_callS (m' := mN_sizeOf) (As := [_]) (p2 := 35) dX_noteApart_32 rfl ml_X_230 ok_mN_sizeOf sm_mN_sizeOf rfl rfl (Nat.le_of_ble_eq_true rfl) (Nat.le_of_ble_eq_true rfl) ⟨(Nat.le_of_ble_eq_true rfl), (Nat.le_of_ble_eq_true rfl)⟩ ?_
        rw [eD (by omega), eF (by omega)]
        refine cN_sizeOf ?_
        rw [eg]
        refine j_dstore_n (p2 := 36) (lv' := [(0, _), (1, _), (2, _)]) dX_noteApart_35 rfl (Nat.le_of_ble_eq_true rfl) ⟨rfl, rfl, rfl, trivial⟩ ?_
        refine j_dload_n (p2 := 37) dX_noteApart_36 rfl rfl ?_
        refine j_aload_n (p2 := 38) dX_noteApart_37 rfl rfl ?_
        refine j_getR (p2 := 41) dX_noteApart_38 rfl fa_X_64 ly_0 rfl ?_
        refine j_iload_n (p2 := 42) dX_noteApart_41 rfl rfl ?_
        refine j_dald (p2 := 43) dX_noteApart_42 rfl ly_2 (by decide) (by omega) (by omega) ?_
        refine j_dcmp_l_le (p1 := 44) (p2 := 47) (tg := 54) dX_noteApart_43 rfl dX_noteApart_44 rfl (by decide) (fun h43 => ?_) (fun h43 => ?_)
        · refine j_iinc (p2 := 57) (lv' := [(0, _), (1, _)]) dX_noteApart_54 rfl (Nat.le_of_ble_eq_true rfl) rfl ⟨rfl, rfl, trivial⟩ ?_
          refine j_goto (p2 := 2) dX_noteApart_57 (by decide) ?_
          refine J.loc (lv' := [(0, _), (1, _)]) ⟨rfl, rfl, trivial⟩ ?_
          rw [eA] at h43
          first
            | (have g : FP.dcmp (gap (rD i) (rF i)) (hD σ 2 i) = some .gt := h43
               exact (ih2 (by omega)).hp (yes g))
            | (have g : ¬ FP.dcmp (gap (rD i) (rF i)) (hD σ 2 i) = some .gt := h43
               exact (ih2 (by omega)).hp (no g))
        · refine j_aload_n (p2 := 48) dX_noteApart_47 rfl rfl ?_
          refine j_getR (p2 := 51) dX_noteApart_48 rfl fa_X_64 ly_0 rfl ?_
          refine j_iload_n (p2 := 52) dX_noteApart_51 rfl rfl ?_
          refine j_dload_n (p2 := 53) dX_noteApart_52 rfl rfl ?_
          refine j_dastk (p2 := 54) dX_noteApart_53 rfl ly_2 (by decide) (by omega) (by omega) ?_
          refine j_iinc (p2 := 57) (lv' := [(0, _), (1, _)]) dX_noteApart_54 rfl (Nat.le_of_ble_eq_true rfl) rfl ⟨rfl, rfl, trivial⟩ ?_
          refine j_goto (p2 := 2) dX_noteApart_57 (by decide) ?_
          refine J.loc (lv' := [(0, _), (1, _)]) ⟨rfl, rfl, trivial⟩ ?_
          rw [eA] at h43
          first
            | (have g : FP.dcmp (gap (rD i) (rF i)) (hD σ 2 i) = some .gt := h43
               exact (ih2 (by omega)).hp (yes g))
            | (have g : ¬ FP.dcmp (gap (rD i) (rF i)) (hD σ 2 i) = some .gt := h43
               exact (ih2 (by omega)).hp (no g))
  refine j_iconst (p2 := 1) dX_noteApart_0 rfl ?_
  refine j_istore_n (p2 := 2) (lv' := [(0, _), (1, _)]) dX_noteApart_1 rfl (Nat.le_of_ble_eq_true rfl) ⟨rfl, rfl, trivial⟩ ?_
  refine J.loc (lv' := [(0, _), (1, _)]) ⟨rfl, rfl, trivial⟩ ?_
  exact (loop (N + 1) 0 (by omega) (by omega)).hp (by unfold naH; rw [pw_0, wD_id])
end PAN2
