/-! ===== the panel: digest, count ===== -/
/-- n of these, into h -/
def wNs (f : Int64 → Int → Int64) (h : Int64) : Nat → Int64
  | 0 => h
  | i + 1 => f (wNs f h i) i
/-- n samples of a strip, into h -/
def wSm (b : Int → Int64) (s : Int) : Int64 → Nat → Int64 := fun h n => wNs (fun g i => 31 * g + b (120 * s + i)) h n
def wSt (ln : Int → Int) (b : Int → Int64) : Int64 → Int → Int64 := fun h s => wSm b s (31 * h + i6L (ln s)) (ln s).toNat
section DIG2
variable {σ : Hp} {Q : Option PV → Hp → Prop} {N S : Nat}
theorem cX_digest {fr : Int → Int} {rD : Int → UInt64} {rF : Int → UInt32} (hc : CtI σ fr N) (hmo : inR (hI σ 0 9)) (hd : ¬ hI σ 0 9 = 0 → Rdd σ rD N ∧ Rdf σ rF N ∧ (∀ k : Int, 0 ≤ k → k < N → rD k ≠ 9223372036854775808 ∧ rF k ≠ 2147483648)) (hS : hI σ 47 0 = S ∧ S ≤ 6) (hl : ∀ s : Int, 0 ≤ s → s < S → 0 ≤ hI σ 49 s ∧ hI σ 49 s ≤ 120)
    (hQ : Q (some (vL (wNs (wSt (hI σ 49) (hL σ 50)) (wNs (wMo (hI σ 4) (hL σ 5) fr (hI σ 10) (hL σ 7) (decide (¬ hI σ 0 9 = 0)) rD rF (hI σ 20)) (31 * (31 * 47 + i6L (hI σ 0 9)) + i6L (hI σ 0 10)) N) S))) σ) : Sp mX_digest [vR 0] σ Q := by
  have hN := hc.1
  have hN2 := hc.2.1
  obtain ⟨M, hM⟩ : ∃ M, M = wMo (hI σ 4) (hL σ 5) fr (hI σ 10) (hL σ 7) (decide (¬ hI σ 0 9 = 0)) rD rF (hI σ 20) := ⟨_, rfl⟩
  obtain ⟨T, hT⟩ : ∃ T, T = wSt (hI σ 49) (hL σ 50) := ⟨_, rfl⟩
  obtain ⟨h0, hh0⟩ : ∃ h0, h0 = 31 * (31 * 47 + i6L (hI σ 0 9)) + i6L (hI σ 0 10) := ⟨_, rfl⟩
  rw [← hM, ← hT, ← hh0] at hQ
  have strips : ∀ g, Q (some (vL (wNs T g S))) σ → ∀ (n i : Nat), i ≤ S → S + 1 ≤ i + n → J mX_digest 48 [(0, vR 0), (1, vL (wNs T g i)), (3, vI i)] [] σ Q := by
    intro g hq n
    induction n with
    | zero => intro i h1 h2; exact absurd h2 (by omega)
    | succ n ih =>
      intro i h1 h2
      have ih2 : i < S → J mX_digest 48 [(0, vR 0), (1, vL (T (wNs T g i) i)), (3, vI (i + 1))] [] σ Q := fun h => ih (i + 1) (by omega) (by omega)
      have hli : i < S → 0 ≤ hI σ 49 i ∧ hI σ 49 i ≤ 120 := fun h => hl i (by omega) (by omega)
      have inner : i < S → ∀ (k j : Nat), j ≤ (hI σ 49 i).toNat → (hI σ 49 i).toNat + 1 ≤ j + k → J mX_digest 77 [(0, vR 0), (1, vL (wSm (hL σ 50) i (31 * wNs T g i + i6L (hI σ 49 i)) j)), (3, vI i), (4, vI j)] [] σ Q := by
        intro hi k
        have hli := hli hi
        induction k with
        | zero => intro j a1 a2; exact absurd a2 (by omega)
        | succ k ihk =>
          intro j a1 a2
          have nx : j < (hI σ 49 i).toNat → J mX_digest 77 [(0, vR 0), (1, vL (31 * wSm (hL σ 50) i (31 * wNs T g i + i6L (hI σ 49 i)) j + hL σ 50 (120 * i + j))), (3, vI i), (4, vI (j + 1))] [] σ Q := fun h => ihk (j + 1) (by omega) (by omega)
          rw [Int.mul_comm 120 (i : Int)] at nx
          have out : j = (hI σ 49 i).toNat → J mX_digest 48 [(0, vR 0), (1, vL (wSm (hL σ 50) i (31 * wNs T g i + i6L (hI σ 49 i)) j)), (3, vI (i + 1))] [] σ Q := fun h => by
            have z := ih2 hi
            rw [hT] at z ⊢
            rw [h]
            exact z
          refine j_iload (p2 := 79) dX_digest_77 rfl rfl ?_
          refine j_aload_n (p2 := 80) dX_digest_79 rfl rfl ?_
          refine j_getR (p2 := 83) dX_digest_80 rfl fa_X_47 ly_0 rfl ?_
          refine j_getR (p2 := 86) dX_digest_83 rfl fa_X_238 ly_47 rfl ?_
          refine j_iload_n (p2 := 87) dX_digest_86 rfl rfl ?_
          refine j_iald (p2 := 88) dX_digest_87 rfl ly_49 (by decide) (by omega) (by omega) ?_
          refine j_icmp_ge (p2 := 91) (tg := 112) dX_digest_88 rfl (by decide) (by constructor <;> omega) (by constructor <;> omega) (fun h88 => ?_) (fun h88 => ?_)
          · refine j_iinc (p2 := 115) (lv' := [(0, _), (1, _), (3, _)]) dX_digest_112 rfl (Nat.le_of_ble_eq_true rfl) rfl ⟨rfl, rfl, rfl, trivial⟩ ?_
            refine j_goto (p2 := 48) dX_digest_115 (by decide) ?_
            refine J.loc (lv' := [(0, _), (1, _), (3, _)]) ⟨rfl, rfl, rfl, trivial⟩ ?_
            exact out (by omega)
          · refine j_lload_n (p2 := 92) dX_digest_91 rfl rfl ?_
            refine j_aload_n (p2 := 93) dX_digest_92 rfl rfl ?_
            refine j_getR (p2 := 96) dX_digest_93 rfl fa_X_47 ly_0 rfl ?_
            refine j_iload_n (p2 := 97) dX_digest_96 rfl rfl ?_
            refine j_iload (p2 := 99) dX_digest_97 rfl rfl ?_
            refine j_callV (m' := mS_at) (As := [_, _]) (p2 := 102) dX_digest_99 rfl ml_X_241 ok_mS_at im_mS_at se_mS_at rfl rfl (Nat.le_of_ble_eq_true rfl) ly_47 rfl (Nat.le_of_ble_eq_true rfl) ⟨(Nat.le_of_ble_eq_true rfl), (Nat.le_of_ble_eq_true rfl)⟩ ?_
            refine cS_at ⟨by omega, by omega⟩ ⟨by omega, by omega⟩ ?_
            refine j_callS (m' := mX_with) (As := [_, _]) (p2 := 105) dX_digest_102 rfl ml_X_285 ok_mX_with sm_mX_with rfl rfl (Nat.le_of_ble_eq_true rfl) (Nat.le_of_ble_eq_true rfl) ⟨(Nat.le_of_ble_eq_true rfl), (Nat.le_of_ble_eq_true rfl)⟩ ?_
            refine cX_with ?_
            refine j_lstore_n (p2 := 106) (lv' := [(0, _), (1, _), (3, _), (4, _)]) dX_digest_105 rfl (Nat.le_of_ble_eq_true rfl) ⟨rfl, rfl, rfl, rfl, trivial⟩ ?_
            refine j_iinc (p2 := 109) (lv' := [(0, _), (1, _), (3, _), (4, _)]) dX_digest_106 rfl (Nat.le_of_ble_eq_true rfl) rfl ⟨rfl, rfl, rfl, rfl, trivial⟩ ?_
            refine j_goto (p2 := 77) dX_digest_109 (by decide) ?_
            refine J.loc (lv' := [(0, _), (1, _), (3, _), (4, _)]) ⟨rfl, rfl, rfl, rfl, trivial⟩ ?_
            exact nx (by omega)
      refine j_iload_n (p2 := 49) dX_digest_48 rfl rfl ?_
      refine j_aload_n (p2 := 50) dX_digest_49 rfl rfl ?_
      refine j_getR (p2 := 53) dX_digest_50 rfl fa_X_47 ly_0 rfl ?_
      refine j_getIk (p2 := 56) dX_digest_53 rfl fa_X_234 ly_47 rfl (ki := 0) rfl ?_
      refine j_icmp_ge (p2 := 59) (tg := 118) dX_digest_56 rfl (by decide) (by constructor <;> omega) (by constructor <;> omega) (fun h56 => ?_) (fun h56 => ?_)
      · refine j_lload_n (p2 := 119) dX_digest_118 rfl rfl ?_
        refine j_lreturn dX_digest_119 rfl (by have e : i = S := (by omega); subst e; exact hq)
      · refine j_lload_n (p2 := 60) dX_digest_59 rfl rfl ?_
        refine j_aload_n (p2 := 61) dX_digest_60 rfl rfl ?_
        refine j_getR (p2 := 64) dX_digest_61 rfl fa_X_47 ly_0 rfl ?_
        refine j_getR (p2 := 67) dX_digest_64 rfl fa_X_238 ly_47 rfl ?_
        refine j_iload_n (p2 := 68) dX_digest_67 rfl rfl ?_
        refine j_iald (p2 := 69) dX_digest_68 rfl ly_49 (by decide) (by omega) (by omega) ?_
        refine j_i2l (p2 := 70) dX_digest_69 rfl ?_
        refine j_callS (m' := mX_with) (As := [_, _]) (p2 := 73) dX_digest_70 rfl ml_X_285 ok_mX_with sm_mX_with rfl rfl (Nat.le_of_ble_eq_true rfl) (Nat.le_of_ble_eq_true rfl) ⟨(Nat.le_of_ble_eq_true rfl), (Nat.le_of_ble_eq_true rfl)⟩ ?_
        refine cX_with ?_
        refine j_lstore_n (p2 := 74) (lv' := [(0, _), (1, _), (3, _)]) dX_digest_73 rfl (Nat.le_of_ble_eq_true rfl) ⟨rfl, rfl, rfl, trivial⟩ ?_
        refine j_iconst (p2 := 75) dX_digest_74 rfl ?_
        refine j_istore (p2 := 77) (lv' := [(0, _), (1, _), (3, _), (4, _)]) dX_digest_75 rfl (Nat.le_of_ble_eq_true rfl) ⟨rfl, rfl, rfl, rfl, trivial⟩ ?_
        refine J.loc (lv' := [(0, _), (1, _), (3, _), (4, _)]) ⟨rfl, rfl, rfl, rfl, trivial⟩ ?_
        exact inner (by omega) ((hI σ 49 i).toNat + 1) 0 (by omega) (by omega)
  have loop : ∀ (n i : Nat), i ≤ N → N + 1 ≤ i + n → J mX_digest 22 [(0, vR 0), (1, vL (wNs M h0 i)), (3, vI i)] [] σ Q := by
    intro n
    induction n with
    | zero => intro i h1 h2; exact absurd h2 (by omega)
    | succ n ih =>
      intro i h1 h2
      have ih2 : i < N → J mX_digest 22 [(0, vR 0), (1, vL (M (wNs M h0 i) i)), (3, vI (i + 1))] [] σ Q := fun h => ih (i + 1) (by omega) (by omega)
      refine j_iload_n (p2 := 23) dX_digest_22 rfl rfl ?_
      refine j_aload_n (p2 := 24) dX_digest_23 rfl rfl ?_
      refine j_getR (p2 := 27) dX_digest_24 rfl fa_X_10 ly_0 rfl ?_
      refine j_getIk (p2 := 30) dX_digest_27 rfl fa_X_82 ly_3 rfl (ki := 0) rfl ?_
      refine j_icmp_ge (p2 := 33) (tg := 46) dX_digest_30 rfl (by decide) (by constructor <;> omega) (by constructor <;> omega) (fun h30 => ?_) (fun h30 => ?_)
      · refine J.loc (lv' := [(0, _), (1, _)]) ⟨rfl, rfl, trivial⟩ ?_
        have e : i = N := by omega
        subst e
        refine j_iconst (p2 := 47) dX_digest_46 rfl ?_
        refine j_istore_n (p2 := 48) (lv' := [(0, _), (1, _), (3, _)]) dX_digest_47 rfl (Nat.le_of_ble_eq_true rfl) ⟨rfl, rfl, rfl, trivial⟩ ?_
        refine J.loc (lv' := [(0, _), (1, _), (3, _)]) ⟨rfl, rfl, rfl, trivial⟩ ?_
        exact strips _ hQ (S + 1) 0 (by omega) (by omega)
      · refine j_aload_n (p2 := 34) dX_digest_33 rfl rfl ?_
        refine j_lload_n (p2 := 35) dX_digest_34 rfl rfl ?_
        refine j_iload_n (p2 := 36) dX_digest_35 rfl rfl ?_
        refine j_callV (m' := mX_withModule) (As := [_, _]) (p2 := 39) dX_digest_36 rfl ml_X_289 ok_mX_withModule im_mX_withModule se_mX_withModule rfl rfl (Nat.le_of_ble_eq_true rfl) ly_0 rfl (Nat.le_of_ble_eq_true rfl) ⟨(Nat.le_of_ble_eq_true rfl), (Nat.le_of_ble_eq_true rfl)⟩ ?_
        refine cX_withModule hc ⟨by omega, by omega⟩ hmo hd ?_
        rw [← hM]
        refine j_lstore_n (p2 := 40) (lv' := [(0, _), (1, _), (3, _)]) dX_digest_39 rfl (Nat.le_of_ble_eq_true rfl) ⟨rfl, rfl, rfl, trivial⟩ ?_
        refine j_iinc (p2 := 43) (lv' := [(0, _), (1, _), (3, _)]) dX_digest_40 rfl (Nat.le_of_ble_eq_true rfl) rfl ⟨rfl, rfl, rfl, trivial⟩ ?_
        refine j_goto (p2 := 22) dX_digest_43 (by decide) ?_
        refine J.loc (lv' := [(0, _), (1, _), (3, _)]) ⟨rfl, rfl, rfl, trivial⟩ ?_
        exact ih2 (by omega)
  rw [hh0] at loop
  refine j_ldc2 (p2 := 3) dX_digest_0 rfl cw_X_283 ?_
  refine j_aload_n (p2 := 4) dX_digest_3 rfl rfl ?_
  refine j_getIk (p2 := 7) dX_digest_4 rfl fa_X_68 ly_0 rfl (ki := 9) rfl ?_
  refine j_i2l (p2 := 8) dX_digest_7 rfl ?_
  refine j_callS (m' := mX_with) (As := [_, _]) (p2 := 11) dX_digest_8 rfl ml_X_285 ok_mX_with sm_mX_with rfl rfl (Nat.le_of_ble_eq_true rfl) (Nat.le_of_ble_eq_true rfl) ⟨(Nat.le_of_ble_eq_true rfl), (Nat.le_of_ble_eq_true rfl)⟩ ?_
  refine cX_with ?_
  refine j_aload_n (p2 := 12) dX_digest_11 rfl rfl ?_
  refine j_getIk (p2 := 15) dX_digest_12 rfl fa_X_164 ly_0 rfl (ki := 10) rfl ?_
  refine j_i2l (p2 := 16) dX_digest_15 rfl ?_
  refine j_callS (m' := mX_with) (As := [_, _]) (p2 := 19) dX_digest_16 rfl ml_X_285 ok_mX_with sm_mX_with rfl rfl (Nat.le_of_ble_eq_true rfl) (Nat.le_of_ble_eq_true rfl) ⟨(Nat.le_of_ble_eq_true rfl), (Nat.le_of_ble_eq_true rfl)⟩ ?_
  refine cX_with ?_
  refine j_lstore_n (p2 := 20) (lv' := [(0, _), (1, _)]) dX_digest_19 rfl (Nat.le_of_ble_eq_true rfl) ⟨rfl, rfl, trivial⟩ ?_
  refine j_iconst (p2 := 21) dX_digest_20 rfl ?_
  refine j_istore_n (p2 := 22) (lv' := [(0, _), (1, _), (3, _)]) dX_digest_21 rfl (Nat.le_of_ble_eq_true rfl) ⟨rfl, rfl, rfl, trivial⟩ ?_
  refine J.loc (lv' := [(0, _), (1, _), (3, _)]) ⟨rfl, rfl, rfl, trivial⟩ ?_
  exact loop (N + 1) 0 (by omega) (by omega)
end DIG2
