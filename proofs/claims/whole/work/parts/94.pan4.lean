/-! ===== the panel: to the start ===== -/
def raG (kd fr tu : Int → Int) (r : Int → UInt64) (m : Int) : Int64 := if kd m = 2 then (gsum arD fr tu r m 6).1.toInt64 else 0
def raC (σ : Hp) (G : Int → Int64) (i : Nat) : Hp := wL (wD σ 2 (pw (hD σ 2) (fun _ => FP.dconst0) i)) 1 (pw (hL σ 1) G i)
section PAN4
variable {σ : Hp} {Q : Option PV → Hp → Prop} {N S : Nat}
theorem ra_step {a c : Int → UInt64} {b d : Int → Int64} : wL (wD (wL (wD σ 2 a) 1 b) 2 c) 1 d = wL (wD σ 2 c) 1 d := by
  show (σ.1, up1 (up1 σ.2.1 1 b) 1 d, σ.2.2.1, up1 (up1 σ.2.2.2 2 a) 2 c) = (σ.1, up1 σ.2.1 1 d, σ.2.2.1, up1 σ.2.2.2 2 c)
  simp only [up1_up1]
/-- the second half: rates, gaps -/
theorem ts_rates {fr : Int → Int} {rD : Int → UInt64} {rF : Int → UInt32} (hc : CtI σ fr N) (hfl : hI σ 21 3 = 0) (hd : Rdd σ rD N) (hf : Rdf σ rF N) (hz : ∀ k : Int, 0 ≤ k → k < N → rD k ≠ 9223372036854775808) (hQ : ∀ G, G = raG (hI σ 4) fr (hI σ 10) rD → Q none (naH (raC σ G N) rD rF N)) : J mX_toStart 51 [(0, vR 0)] [] σ Q := by
  have hN := hc.1
  have hN2 := hc.2.1
  obtain ⟨G, hG⟩ : ∃ G, G = raG (hI σ 4) fr (hI σ 10) rD := ⟨_, rfl⟩
  have hQ := hQ G hG
  have loop : ∀ (n i : Nat), i ≤ N → N + 1 ≤ i + n → J mX_toStart 53 [(0, vR 0), (1, vI i)] [] (raC σ G i) Q := by
    intro n
    induction n with
    | zero => intro i h1 h2; exact absurd h2 (by omega)
    | succ n ih =>
      intro i h1 h2
      have eN : hI (raC σ G i) 3 0 = N := hN
      have ih2 : i < N → J mX_toStart 53 [(0, vR 0), (1, vI (i + 1))] [] (raC σ G (i + 1)) Q := fun h => ih (i + 1) (by omega) (by omega)
      have hk : i < N → 0 ≤ hI σ 4 i ∧ hI σ 4 i < 14 := fun h => hc.2.2.1 i (by omega) (by omega)
      obtain ⟨τ, hτ⟩ : ∃ τ, τ = wD (raC σ G i) 2 (fup (hD (raC σ G i) 2) i FP.dconst0) := ⟨_, rfl⟩
      have e4 : hI τ 4 = hI σ 4 := by rw [hτ]; rfl
      have e10 : hI τ 10 = hI σ 10 := by rw [hτ]; rfl
      have hc2 : CtI τ fr N := by rw [hτ]; exact hc
      have hfl2 : hI τ 21 3 = 0 := by rw [hτ]; exact hfl
      have hd2 : Rdd τ rD N := by rw [hτ]; exact hd
      have yes : ∀ x, x = G i → raC σ G (i + 1) = wL τ 1 (fup (hL τ 1) i x) := fun x hx => by
        rw [hx, hτ]
        unfold raC
        rw [ra_step]
        have e1 := pw_s (hD σ 2) (fun _ => FP.dconst0) i
        have e2 := pw_s (hL σ 1) G i
        rw [← e1, ← e2]
        rfl
      have go : i < N → J mX_toStart 71 [(0, vR 0), (1, vI i)] [] τ Q := fun hi => by
        have hk := hk hi
        rw [← e4] at hk
        have at101 : ∀ x, x = G i → J mX_toStart 101 [(0, vR 0), (1, vI i)] [vL x, vI i, vR 1] τ Q := fun x hx => by
          refine j_lastk (p2 := 102) dX_toStart_101 rfl ly_1 (by decide) (by omega) (by omega) ?_
          refine j_iinc (p2 := 105) (lv' := [(0, _), (1, _)]) dX_toStart_102 rfl (Nat.le_of_ble_eq_true rfl) rfl ⟨rfl, rfl, trivial⟩ ?_
          refine j_goto (p2 := 53) dX_toStart_105 (by decide) ?_
          refine J.loc (lv' := [(0, _), (1, _)]) ⟨rfl, rfl, trivial⟩ ?_
          exact (ih2 hi).hp (yes x hx)
        refine j_aload_n (p2 := 72) dX_toStart_71 rfl rfl ?_
        refine j_getR (p2 := 75) dX_toStart_72 rfl fa_X_60 ly_0 rfl ?_
        refine j_iload_n (p2 := 76) dX_toStart_75 rfl rfl ?_
        refine j_aload_n (p2 := 77) dX_toStart_76 rfl rfl ?_
        refine j_getR (p2 := 80) dX_toStart_77 rfl fa_X_10 ly_0 rfl ?_
        refine j_getR (p2 := 83) dX_toStart_80 rfl fa_X_97 ly_3 rfl ?_
        refine j_iload_n (p2 := 84) dX_toStart_83 rfl rfl ?_
        refine j_iald (p2 := 85) dX_toStart_84 rfl ly_4 (by decide) (by omega) (by omega) ?_
        refine j_iconst (p2 := 86) dX_toStart_85 rfl ?_
        refine j_icmp_ne (p2 := 89) (tg := 100) dX_toStart_86 rfl (by decide) (by constructor <;> omega) (by constructor <;> omega) (fun h86 => ?_) (fun h86 => ?_)
        · refine j_lconst (v := 0) (p2 := 101) dX_toStart_100 rfl rfl ?_
          refine J.loc (lv' := [(0, _), (1, _)]) ⟨rfl, rfl, trivial⟩ ?_
          rw [e4] at h86
          first
            | (have g : hI σ 4 i = 2 := h86
               exact at101 _ (by rw [hG, e10]; exact (if_pos g).symm))
            | (have g : ¬ hI σ 4 i = 2 := h86
               exact at101 _ (by rw [hG]; exact (if_neg g).symm))
        · refine j_aload_n (p2 := 90) dX_toStart_89 rfl rfl ?_
          refine j_getR (p2 := 93) dX_toStart_90 rfl fa_X_37 ly_0 rfl ?_
          refine j_iload_n (p2 := 94) dX_toStart_93 rfl rfl ?_
          refine j_callV (m' := mT_sumBits) (As := [_]) (p2 := 97) dX_toStart_94 rfl ml_X_209 ok_mT_sumBits im_mT_sumBits se_mT_sumBits rfl rfl (Nat.le_of_ble_eq_true rfl) ly_21 rfl (Nat.le_of_ble_eq_true rfl) ⟨(Nat.le_of_ble_eq_true rfl), (Nat.le_of_ble_eq_true rfl)⟩ ?_
          refine cTd_sumBits hc2 hfl2 ⟨by omega, by omega⟩ hd2 hz ?_
          refine j_goto (p2 := 101) dX_toStart_97 (by decide) ?_
          refine J.loc (lv' := [(0, _), (1, _)]) ⟨rfl, rfl, trivial⟩ ?_
          rw [e4] at h86
          first
            | (have g : hI σ 4 i = 2 := h86
               exact at101 _ (by rw [hG, e10]; exact (if_pos g).symm))
            | (have g : ¬ hI σ 4 i = 2 := h86
               exact at101 _ (by rw [hG]; exact (if_neg g).symm))
      rw [hτ] at go
      refine j_iload_n (p2 := 54) dX_toStart_53 rfl rfl ?_
      refine j_aload_n (p2 := 55) dX_toStart_54 rfl rfl ?_
      refine j_getR (p2 := 58) dX_toStart_55 rfl fa_X_10 ly_0 rfl ?_
      refine j_getIk (p2 := 61) dX_toStart_58 rfl fa_X_82 ly_3 rfl (ki := 0) rfl ?_
      refine j_icmp_ge (p2 := 64) (tg := 108) dX_toStart_61 rfl (by decide) (by constructor <;> omega) (by rw [eN]; constructor <;> omega) (fun h61 => ?_) (fun h61 => ?_)
      · refine J.loc (lv' := [(0, _)]) ⟨rfl, trivial⟩ ?_
        rw [eN] at h61
        have e : i = N := by omega
        subst e
        refine j_aload_n (p2 := 109) dX_toStart_108 rfl rfl ?_
        refine j_callV (m' := mX_noteApart) (As := []) (p2 := 112) dX_toStart_109 rfl ml_X_213 ok_mX_noteApart im_mX_noteApart se_mX_noteApart rfl rfl (Nat.le_of_ble_eq_true rfl) ly_0 rfl (Nat.le_of_ble_eq_true rfl) ⟨(Nat.le_of_ble_eq_true rfl), (Nat.le_of_ble_eq_true rfl)⟩ ?_
        refine cX_noteApart (N := i) ⟨hN, hN2⟩ hd hf ?_
        refine j_return dX_toStart_112 rfl (by exact hQ)
      · refine J.loc (lv' := [(0, _), (1, _)]) ⟨rfl, rfl, trivial⟩ ?_
        rw [eN] at h61
        refine j_aload_n (p2 := 65) dX_toStart_64 rfl rfl ?_
        refine j_getR (p2 := 68) dX_toStart_65 rfl fa_X_64 ly_0 rfl ?_
        refine j_iload_n (p2 := 69) dX_toStart_68 rfl rfl ?_
        refine j_dconst0 (p2 := 70) dX_toStart_69 rfl ?_
        refine j_dastk (p2 := 71) dX_toStart_70 rfl ly_2 (by decide) (by omega) (by omega) ?_
        refine J.loc (lv' := [(0, _), (1, _)]) ⟨rfl, rfl, trivial⟩ ?_
        exact go (by omega)
  refine j_iconst (p2 := 52) dX_toStart_51 rfl ?_
  refine j_istore_n (p2 := 53) (lv' := [(0, _), (1, _)]) dX_toStart_52 rfl (Nat.le_of_ble_eq_true rfl) ⟨rfl, rfl, trivial⟩ ?_
  refine J.loc (lv' := [(0, _), (1, _)]) ⟨rfl, rfl, trivial⟩ ?_
  exact (loop (N + 1) 0 (by omega) (by omega)).hp (by unfold raC; rw [pw_0, pw_0, wD_id, wL_id])
end PAN4
