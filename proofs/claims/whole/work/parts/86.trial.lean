/-! ===== the class's trials ===== -/
/-- n steps -/
def gsn {α : Type} (A : Ar α) (zc : Int → α) (P : Pt α) (h h2 : α) (T : Ts α) : Nat → Ts α
  | 0 => T
  | n + 1 => (gstep A zc P h h2 (gsn A zc P h h2 T n)).1
/-- a twin at the start -/
def gT0 (b : Int → UInt64) (s : Int → UInt64) (P : Pt UInt64) (r : Int → UInt64) : Ts UInt64 := ((gRd arD P (fun j => b (j / 16)) b r).1, b, (fun j => b (j / 16)), fun m => (FP.d2i (s m)).toInt)
/-- the cells of trials -/
abbrev TrC : List Nat := [57, 58, 59, 60, 61, 62, 63, 64, 65, 66, 67, 68, 55]
/-- the lamps of trials -/
abbrev L20 (σ : Hp) : Prop := (∀ m : Int, 0 ≤ m → m < 20 → inR (hI σ 55 m)) ∧ inR (hI σ 54 1)
theorem L20.p {σ : Hp} {N : Nat} (h : L20 σ) (hN : N ≤ 20) : Lpt σ N := ⟨fun m a b => h.1 m a (by omega), h.2⟩
theorem L20.s {σ τ : Hp} {b : Int → Bool} (h : L20 σ) (e : hI τ 55 = lms (hI σ 55) (hI σ 54 1) b ∧ hI τ 54 1 = hI σ 54 1) : L20 τ := ⟨fun m x y => by rw [e.1]; exact lms_inR (h.1 m x y) h.2, by rw [e.2]; exact h.2⟩
section TRI
variable {σ : Hp} {Q : Option PV → Hp → Prop}
theorem lenD_mh (k : Nat) : MhD (lenD k) := lenD_mg k
/-- what a trial needs -/
abbrev Tri (σ : Hp) (fr : Int → Int) (c : Int) (v : UInt64) (nn : Int → Int) (L : List Int) (N : Nat) : Prop :=
  CtI σ fr N ∧ hI σ 56 3 = 0 ∧ inR c ∧ PatW σ fr N ∧ OrdC σ L N ∧ (∀ m : Int, 0 ≤ m → m < N → vf_n64 (svC σ c v m) ∧ (hD σ 8 m).toNat % 2 ^ 63 ≤ 4609434218613702656 ∧ (hI σ 4 m = 10 ∨ hI σ 4 m = 12 → BdD (svC σ c v m)) ∧ (hI σ 4 m = 11 → (1 ≤ nn m ∧ nn m ≤ 16) ∧ SCmp (svC σ c v m) (nn m)))
theorem Tri.fr {τ : Hp} {fr : Int → Int} {c : Int} {v : UInt64} {nn : Int → Int} {L : List Int} {N : Nat} {S : List Nat} (h : Tri σ fr c v nn L N) (F : Fq S σ τ) (hS : 3 ∉ S ∧ 4 ∉ S ∧ 6 ∉ S ∧ 8 ∉ S ∧ 9 ∉ S ∧ 10 ∉ S ∧ 11 ∉ S ∧ 12 ∉ S ∧ 13 ∉ S ∧ 15 ∉ S ∧ 17 ∉ S ∧ 56 ∉ S) : Tri τ fr c v nn L N := by
  obtain ⟨s3, s4, s6, s8, s9, s10, s11, s12, s13, s15, s17, s56⟩ := hS
  unfold Tri CtI PatW OrdC svC at *
  rw [F.I s3, F.I s4, F.D s6, F.D s8, F.I s9, F.I s10, F.I s11, F.D s12, F.D s13, F.I s15, F.I s17, F.I s56]
  exact h
theorem cR_readingBehind {fr : Int → Int} {c : Int} {v : UInt64} {nn : Int → Int} {r : Int → UInt64} {L : List Int} {N : Nat} {q : Int} {n k : Nat} (hT : Tri σ fr c v nn L N) (hl : L20 σ) (hr : Rdt σ r N) (hk : hI σ 3 2 = k ∧ 0 < k ∧ k ≤ 29) (hru : 0 ≤ hI σ 3 1 ∧ hI σ 3 1 ≤ 2) (hq : 0 ≤ q ∧ q < N) (hn : n ≤ 1000)
    (hQ : ∀ P T, P = Pct σ fr (svC σ c v) nn L N → T = gsn arD zcD P (lenD k) (lenD (k + 1)) (gT0 (hD σ 8) (svC σ c v) P r) n → ∀ τ, Fq TrC σ τ → Rdt τ T.1 N → L20 τ → Q (some (vD (T.1 q))) τ) : Sp mR_readingBehind [vR 51, vI c, vD v, vI n, vI q] σ Q := by
  obtain ⟨a1, a2, a3, a4, a5, a6⟩ := hT
  have hN2 := a1.2.1
  have loop : ∀ P, P = Pct σ fr (svC σ c v) nn L N → ∀ (f i : Nat), i ≤ n → n + 1 ≤ i + f → ∀ τ T, T = gsn arD zcD P (lenD k) (lenD (k + 1)) (gT0 (hD σ 8) (svC σ c v) P r) i → Fq TrC σ τ → Cxt τ fr (svC σ c v) nn T.2.2.1 L N P → Rdt τ T.1 N → Stt τ T.2.1 N → Sdt τ T.2.2.2 N → L20 τ → J mR_readingBehind 24 [(0, vR 51), (4, vI n), (5, vI q), (6, vD (lenD k)), (8, vI i)] [] τ Q := by
    intro P hP f
    induction f with
    | zero => intro i h1 h2; exact absurd h2 (by omega)
    | succ f ih =>
      intro i h1 h2 τ T eT F c1 c2 c3 c4 c5
      have hru2 : 0 ≤ hI τ 3 1 ∧ hI τ 3 1 ≤ 2 := by rw [F.I (by decide)]; exact hru
      have hfin : i = n → Q (some (vD (T.1 q))) τ := fun e => hQ P T hP (by rw [eT, e]) τ F c2 c5
      have eq : hD τ 57 q = T.1 q := (c2 q hq.1 hq.2).1
      refine j_iload (p2 := 26) dR_readingBehind_24 rfl rfl ?_
      refine j_iload (p2 := 28) dR_readingBehind_26 rfl rfl ?_
      refine j_icmp_ge (p2 := 31) (tg := 46) dR_readingBehind_28 rfl (by decide) (by constructor <;> omega) (by constructor <;> omega) (fun h28 => ?_) (fun h28 => ?_)
      · refine j_aload_n (p2 := 47) dR_readingBehind_46 rfl rfl ?_
        refine j_getR (p2 := 50) dR_readingBehind_47 rfl fa_R_30 ly_51 rfl ?_
        refine j_getR (p2 := 53) dR_readingBehind_50 rfl fa_R_54 ly_56 rfl ?_
        refine j_iload (p2 := 55) dR_readingBehind_53 rfl rfl ?_
        refine j_dald (p2 := 56) dR_readingBehind_55 rfl ly_57 (by decide) (by omega) (by omega) ?_
        refine j_dreturn dR_readingBehind_56 rfl (by rw [eq]; exact hfin (by omega))
      · refine j_aload_n (p2 := 32) dR_readingBehind_31 rfl rfl ?_
        refine j_getR (p2 := 35) dR_readingBehind_32 rfl fa_R_30 ly_51 rfl ?_
        refine j_dload (p2 := 37) dR_readingBehind_35 rfl rfl ?_
        refine j_callV (m' := mT_advance) (As := [_]) (p2 := 40) dR_readingBehind_37 rfl ml_R_50 ok_mT_advance im_mT_advance se_mT_advance rfl rfl (Nat.le_of_ble_eq_true rfl) ly_56 rfl (Nat.le_of_ble_eq_true rfl) ⟨(Nat.le_of_ble_eq_true rfl), (Nat.le_of_ble_eq_true rfl)⟩ ?_
        refine cTt_advance (h := lenD k) (h2 := lenD (k + 1)) c1 (c5.p hN2) c2 c3 c4 rfl (lenD_mh k) (lenD_half k (by omega)) (lenD_mh (k + 1)) hru2 (fun τ2 F2 d1 d2 d3 d4 d5 d6 => ?_)
        refine j_iinc (p2 := 43) (lv' := [(0, _), (4, _), (5, _), (6, _), (8, _)]) dR_readingBehind_40 rfl (Nat.le_of_ble_eq_true rfl) rfl ⟨rfl, rfl, rfl, rfl, rfl, trivial⟩ ?_
        refine j_goto (p2 := 24) dR_readingBehind_43 (by decide) ?_
        refine J.loc (lv' := [(0, _), (4, _), (5, _), (6, _), (8, _)]) ⟨rfl, rfl, rfl, rfl, rfl, trivial⟩ ?_
        exact ih (i + 1) (by omega) (by omega) τ2 _ (by rw [eT]; rfl) (F.trans (F2.weak (by decide))) d1 d2 d3 d4 (c5.s d6)
  refine j_aload_n (p2 := 1) dR_readingBehind_0 rfl rfl ?_
  refine j_getR (p2 := 4) dR_readingBehind_1 rfl fa_R_18 ly_51 rfl ?_
  refine j_getIk (p2 := 7) dR_readingBehind_4 rfl fa_R_34 ly_3 rfl (ki := 2) rfl ?_
  refine j_callS (m' := mN_powerOfHalf) (As := [_]) (p2 := 10) dR_readingBehind_7 rfl ml_R_40 ok_mN_powerOfHalf sm_mN_powerOfHalf rfl rfl (Nat.le_of_ble_eq_true rfl) (Nat.le_of_ble_eq_true rfl) ⟨(Nat.le_of_ble_eq_true rfl), (Nat.le_of_ble_eq_true rfl)⟩ ?_
  rw [hk.1]
  refine cN_powL hk.2.1 (by omega) ?_
  refine j_dstore (p2 := 12) (lv' := [(0, _), (1, _), (2, _), (4, _), (5, _), (6, _)]) dR_readingBehind_10 rfl (Nat.le_of_ble_eq_true rfl) ⟨rfl, rfl, rfl, rfl, rfl, rfl, trivial⟩ ?_
  refine j_aload_n (p2 := 13) dR_readingBehind_12 rfl rfl ?_
  refine j_getR (p2 := 16) dR_readingBehind_13 rfl fa_R_30 ly_51 rfl ?_
  refine j_iload_n (p2 := 17) dR_readingBehind_16 rfl rfl ?_
  refine j_dload_n (p2 := 18) dR_readingBehind_17 rfl rfl ?_
  refine j_callV (m' := mT_toStart) (As := [_, _]) (p2 := 21) dR_readingBehind_18 rfl ml_R_46 ok_mT_toStart im_mT_toStart se_mT_toStart rfl rfl (Nat.le_of_ble_eq_true rfl) ly_56 rfl (Nat.le_of_ble_eq_true rfl) ⟨(Nat.le_of_ble_eq_true rfl), (Nat.le_of_ble_eq_true rfl)⟩ ?_
  refine cTt_toStart (nn := nn) a1 a2 a3 a4 a5 (hl.p hN2) hr a6 (fun P q2 hP hq2 τ F d1 d2 d3 d4 d5 d6 => ?_)
  refine j_iconst (p2 := 22) dR_readingBehind_21 rfl ?_
  refine j_istore (p2 := 24) (lv' := [(0, _), (4, _), (5, _), (6, _), (8, _)]) dR_readingBehind_22 rfl (Nat.le_of_ble_eq_true rfl) ⟨rfl, rfl, rfl, rfl, rfl, trivial⟩ ?_
  refine J.loc (lv' := [(0, _), (4, _), (5, _), (6, _), (8, _)]) ⟨rfl, rfl, rfl, rfl, rfl, trivial⟩ ?_
  exact loop P hP (n + 1) 0 (by omega) (by omega) τ (gT0 (hD σ 8) (svC σ c v) P r) rfl (F.weak (by decide)) d1 (by rw [hq2] at d2; exact d2) d3 (fun m x y z => d4 m x y) (hl.s d6)
end TRI
