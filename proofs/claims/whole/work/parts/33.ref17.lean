/-! ===== to START, whole ===== -/
abbrev WfQ (σ : Hp) (m : Int) : Prop := (0 ≤ m ∧ m < 20) ∧ CdR σ m ∧ (0 ≤ hI σ 70 m ∧ hI σ 70 m < 14) ∧ (hI σ 70 m = 9 → ¬ hI σ 72 (6 * m + 2) = -1) ∧ (hI σ 70 m = 7 → TbR (hI σ 75 m) (hD σ 76) (hD σ 77) m) ∧ (hI σ 70 m = 10 ∨ hI σ 70 m = 12 → mg (hD σ 71 m) 1024) ∧ vf_n64 (hD σ 71 m)
/-- the patch is whole: N modules, and what each needs -/
abbrev WP (σ : Hp) (N : Nat) : Prop := hI σ 69 0 = N ∧ N ≤ 20 ∧ CdN (hI σ 72) N ∧ ∀ m : Int, 0 ≤ m → m < N → WfQ σ m ∧ WfX σ m ∧ (hD σ 74 m).toNat % 2 ^ 63 ≤ 4609434218613702656
section REF17
variable {σ : Hp} {Q : Option PV → Hp → Prop} {N : Nat}
def z0H (σ : Hp) (N : Nat) : Hp := wI (wI (wI σ 79 (lvs (hI σ 70) (hI σ 72) (hI σ 79) N)) 69 (fup (hI σ 69) 12 0)) 69 (fup (fup (hI σ 69) 12 0) 44 0)
def begH (σ : Hp) (N : Nat) : Hp := eeH (rdN (bbH (z0H σ N) N (16 * N)) N) N
theorem bb_W (hp : WP σ N) (hr : RdR σ) : WS (bbH (z0H σ N) N (16 * N)) N := by
  obtain ⟨hN, hN2, hc, hm⟩ := hp
  obtain ⟨hr1, hr2⟩ := hr
  have hlb := lvs_b (kd := hI σ 70) (lv := hI σ 79) hc
  have hcb := cnt_b (lvs (hI σ 70) (hI σ 72) (hI σ 79) N) N
  refine ⟨⟨hN, hN2, fun m x y => ?_, fun m x y => ?_, ?_, fun k x y => ?_, fun k x y => ?_⟩, fun k x y => ⟨(hr1 k x y).1, (hr1 k x y).2.1⟩, fun m x y => (hm m x y).2.1⟩
  · obtain ⟨⟨g1, g2, g3, g4, g5, g6, g7⟩, _⟩ := hm m x y
    refine ⟨g1, g2, g3, g4, g5, g6, g7, ?_⟩
    have e : hI (bbH (z0H σ N) N (16 * N)) 87 m = -1 := pw_lo (f := hI σ 87) (g := fun _ => -1) x y
    rw [e]
    constructor <;> decide
  · have := hlb m x y
    show -1 ≤ lvs (hI σ 70) (hI σ 72) (hI σ 79) N m ∧ lvs (hI σ 70) (hI σ 72) (hI σ 79) N m ≤ 20
    omega
  · show inR (0 : Int)
    constructor <;> decide
  · show mg (pw (hD σ 80) (hD σ 74) N k) 1024 ∧ mf (pw (hF σ 81) (xF (hD σ 74)) N k) 128
    by_cases h : k < N
    · rw [pw_lo x h, pw_lo x h]
      have b := (hm k x h).2.2
      exact ⟨mg_15 b, mf_15 (d2f_15 b)⟩
    · rw [pw_hi (by omega), pw_hi (by omega)]
      exact ⟨(hr1 k x y).2.2.1, (hr1 k x y).2.2.2⟩
  · show mg (pw (hD σ 84) (fun j => hD σ 74 (j / 16)) (16 * N) k) 1024 ∧ mf (pw (hF σ 85) (fun j => xF (hD σ 74) (j / 16)) (16 * N) k) 128
    by_cases h : k < (16 * N : Nat)
    · rw [pw_lo x h, pw_lo x h]
      have b := (hm (k / 16) (by omega) (by omega)).2.2
      exact ⟨mg_15 b, mf_15 (d2f_15 b)⟩
    · rw [pw_hi (by omega), pw_hi (by omega)]
      exact hr2 k x y
theorem bb_Z (hz : Zr σ N) : Zr (bbH (z0H σ N) N (16 * N)) N := hz
theorem ee_S (hw : WS σ N) : WS (eeH σ N) N := hw
theorem ee_Z (hz : Zr σ N) : Zr (eeH σ N) N := hz
theorem rd_S {L : List Int} (hw : WS σ N) (hg : RdG σ L) : WS (rdH σ L) N := by
  obtain ⟨⟨a1, a2, a3, a4, a5, a6, a7⟩, b2, b3⟩ := hw
  refine ⟨⟨a1, a2, fun m x y => ?_, a4, a5, a6, a7⟩, hg, b3⟩
  obtain ⟨g1, g2, g3, g4, g5, g6, g7, g8⟩ := a3 m x y
  exact ⟨g1, g2, g3, g4, g5, g6, g7, lms_inR (b := fun k => (rdD σ L).2 k || (rdF σ L).2 k) g8 a5⟩
theorem rd_Z {L : List Int} (hz : Zr σ N) : Zr (rdH σ L) N := hz
theorem WS.c (hw : WS σ N) : ∀ m : Int, 0 ≤ m → m < N → CdR σ m ∧ inR (hI σ 70 m) := fun m a b => by
  obtain ⟨g1, g2, g3, g4⟩ := hw.1.2.2.1 m a b
  exact ⟨g2, by constructor <;> omega⟩
theorem cM_beginAll (hp : WP σ N) (hr : RdR σ) (hz : Zr σ N) (hQ : WS (begH σ N) N → Zr (begH σ N) N → Q none (begH σ N)) : Sp mM_beginAll [vR 69] σ Q := by
  have hp2 := hp
  obtain ⟨hN, hN2, hc, hm⟩ := hp2
  have w1 := bb_W hp hr
  have z1 := bb_Z hz
  refine j_aload_n (p2 := 1) dM_beginAll_0 rfl rfl ?_
  refine j_callV (m' := mM_levelAll) (As := []) (p2 := 4) dM_beginAll_1 rfl ml_M_230 ok_mM_levelAll im_mM_levelAll se_mM_levelAll rfl rfl (Nat.le_of_ble_eq_true rfl) ly_69 rfl (Nat.le_of_ble_eq_true rfl) ⟨(Nat.le_of_ble_eq_true rfl), (Nat.le_of_ble_eq_true rfl)⟩ ?_
  refine cM_levelAll ⟨hN, hN2⟩ hc (fun m x y => by have := (hm m x y).1.2.2.1; constructor <;> omega) ?_
  refine j_aload_n (p2 := 5) dM_beginAll_4 rfl rfl ?_
  refine j_iconst (p2 := 6) dM_beginAll_5 rfl ?_
  refine j_putIk (p2 := 9) dM_beginAll_6 rfl fw_M_322 ly_69 rfl (ki := 12) rfl ?_
  refine j_aload_n (p2 := 10) dM_beginAll_9 rfl rfl ?_
  refine j_iconst (p2 := 11) dM_beginAll_10 rfl ?_
  refine j_putIk (p2 := 14) dM_beginAll_11 rfl fw_M_233 ly_69 rfl (ki := 44) rfl ?_
  refine j_iconst (p2 := 15) dM_beginAll_14 rfl ?_
  refine j_istore_n (p2 := 16) (lv' := [(0, _), (1, _)]) dM_beginAll_15 rfl (Nat.le_of_ble_eq_true rfl) ⟨rfl, rfl, trivial⟩ ?_
  refine J.loc (lv' := [(0, _), (1, _)]) ⟨rfl, rfl, trivial⟩ ?_
  refine bg_loop (σ := z0H σ N) (N := N) ⟨hN, hN2⟩ (fun m x y => ⟨?_, ?_⟩) ?_
  · show inR (hI σ 70 m)
    have := (hm m x y).1.2.2.1
    constructor <;> omega
  · exact (mg_15 (hm m x y).2.2).nn (by decide)
  refine j_aload_n (p2 := 147) dM_beginAll_146 rfl rfl ?_
  refine j_callV (m' := mM_readAll) (As := []) (p2 := 150) dM_beginAll_147 rfl ml_M_311 ok_mM_readAll im_mM_readAll se_mM_readAll rfl rfl (Nat.le_of_ble_eq_true rfl) ly_69 rfl (Nat.le_of_ble_eq_true rfl) ⟨(Nat.le_of_ble_eq_true rfl), (Nat.le_of_ble_eq_true rfl)⟩ ?_
  refine cM_readAll w1.1 w1.2.1 (fun hg => ?_)
  have w2 := rd_S w1 hg
  have z2 := rd_Z (L := ords (hI (bbH (z0H σ N) N (16 * N)) 79) N) z1
  refine j_iconst (p2 := 151) dM_beginAll_150 rfl ?_
  refine j_istore_n (p2 := 152) (lv' := [(0, _), (1, _)]) dM_beginAll_151 rfl (Nat.le_of_ble_eq_true rfl) ⟨rfl, rfl, trivial⟩ ?_
  refine J.loc (lv' := [(0, _), (1, _)]) ⟨rfl, rfl, trivial⟩ ?_
  exact bg_end (σ := rdN (bbH (z0H σ N) N (16 * N)) N) ⟨w2.1.1, w2.1.2.1⟩ w2.c w2.2.1 (hQ (ee_S w2) (ee_Z z2))
end REF17
