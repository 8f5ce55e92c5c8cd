/-! ===== the law: its loop ===== -/
section KLO
variable {L : Nat} {xs : Nat → Int32}
theorem law_case (hL : L ≤ 4608) {σ : Hp} {i : Int} (h0 : 0 ≤ i) (h1 : i + 9 ≤ L) (h : Rel σ) (hK : ∀ ω, Rel ω → KJ L xs 1247 [(0, vR 1001), (1, vR 0), (2, vR 69), (3, vI i)] [] ω) : ∀ (n : Nat) (a : Int), a = n → n < 32 → KJ L xs 33 [(0, vR 1001), (1, vR 0), (2, vR 69), (3, vI i)] [vI a] σ := by
  intro n a ha hn
  have hr : inR a := by constructor <;> omega
  match n, ha, hn with
  | 0, ha, hn => subst ha; exact k_tsw_in (off := 135) (tg := 168) dW_33 hr (by decide) (by decide) rfl (by decide) (lk_0 hL h0 h1 h hK)
  | 1, ha, hn => subst ha; exact k_tsw_in (off := 198) (tg := 231) dW_33 hr (by decide) (by decide) rfl (by decide) (lk_1 hL h0 h1 h hK)
  | 2, ha, hn => subst ha; exact k_tsw_in (off := 267) (tg := 300) dW_33 hr (by decide) (by decide) rfl (by decide) (lk_2 hL h0 h1 h hK)
  | 3, ha, hn => subst ha; exact k_tsw_in (off := 370) (tg := 403) dW_33 hr (by decide) (by decide) rfl (by decide) (lk_3 hL h0 h1 h hK)
  | 4, ha, hn => subst ha; exact k_tsw_in (off := 433) (tg := 466) dW_33 hr (by decide) (by decide) rfl (by decide) (lk_4 hL h0 h1 h hK)
  | 5, ha, hn => subst ha; exact k_tsw_in (off := 496) (tg := 529) dW_33 hr (by decide) (by decide) rfl (by decide) (lk_5 hL h0 h1 h hK)
  | 6, ha, hn => subst ha; exact k_tsw_in (off := 529) (tg := 562) dW_33 hr (by decide) (by decide) rfl (by decide) (lk_6 hL h0 h1 h hK)
  | 7, ha, hn => subst ha; exact k_tsw_in (off := 542) (tg := 575) dW_33 hr (by decide) (by decide) rfl (by decide) (lk_7 hL h0 h1 h hK)
  | 8, ha, hn => subst ha; exact k_tsw_in (off := 555) (tg := 588) dW_33 hr (by decide) (by decide) rfl (by decide) (lk_8 hL h0 h1 h hK)
  | 9, ha, hn => subst ha; exact k_tsw_in (off := 578) (tg := 611) dW_33 hr (by decide) (by decide) rfl (by decide) (lk_9 hL h0 h1 h hK)
  | 10, ha, hn => subst ha; exact k_tsw_in (off := 601) (tg := 634) dW_33 hr (by decide) (by decide) rfl (by decide) (lk_10 hL h0 h1 h hK)
  | 11, ha, hn => subst ha; exact k_tsw_in (off := 614) (tg := 647) dW_33 hr (by decide) (by decide) rfl (by decide) (lk_11 hL h0 h1 h hK)
  | 12, ha, hn => subst ha; exact k_tsw_in (off := 637) (tg := 670) dW_33 hr (by decide) (by decide) rfl (by decide) (lk_12 hL h0 h1 h hK)
  | 13, ha, hn => subst ha; exact k_tsw_in (off := 670) (tg := 703) dW_33 hr (by decide) (by decide) rfl (by decide) (lk_13 hL h0 h1 h hK)
  | 14, ha, hn => subst ha; exact k_tsw_in (off := 683) (tg := 716) dW_33 hr (by decide) (by decide) rfl (by decide) (lk_14 hL h0 h1 h hK)
  | 15, ha, hn => subst ha; exact k_tsw_in (off := 707) (tg := 740) dW_33 hr (by decide) (by decide) rfl (by decide) (lk_15 hL h0 h1 h hK)
  | 16, ha, hn => subst ha; exact k_tsw_in (off := 730) (tg := 763) dW_33 hr (by decide) (by decide) rfl (by decide) (lk_16 hL h0 h1 h hK)
  | 17, ha, hn => subst ha; exact k_tsw_in (off := 753) (tg := 786) dW_33 hr (by decide) (by decide) rfl (by decide) (lk_17 hL h0 h1 h hK)
  | 18, ha, hn => subst ha; exact k_tsw_in (off := 777) (tg := 810) dW_33 hr (by decide) (by decide) rfl (by decide) (lk_18 hL h0 h1 h hK)
  | 19, ha, hn => subst ha; exact k_tsw_in (off := 801) (tg := 834) dW_33 hr (by decide) (by decide) rfl (by decide) (lk_19 hL h0 h1 h hK)
  | 20, ha, hn => subst ha; exact k_tsw_in (off := 824) (tg := 857) dW_33 hr (by decide) (by decide) rfl (by decide) (lk_20 hL h0 h1 h hK)
  | 21, ha, hn => subst ha; exact k_tsw_in (off := 847) (tg := 880) dW_33 hr (by decide) (by decide) rfl (by decide) (lk_21 hL h0 h1 h hK)
  | 22, ha, hn => subst ha; exact k_tsw_in (off := 881) (tg := 914) dW_33 hr (by decide) (by decide) rfl (by decide) (lk_22 hL h0 h1 h hK)
  | 23, ha, hn => subst ha; exact k_tsw_in (off := 914) (tg := 947) dW_33 hr (by decide) (by decide) rfl (by decide) (lk_23 hL h0 h1 h hK)
  | 24, ha, hn => subst ha; exact k_tsw_in (off := 947) (tg := 980) dW_33 hr (by decide) (by decide) rfl (by decide) (lk_24 hL h0 h1 h hK)
  | 25, ha, hn => subst ha; exact k_tsw_in (off := 1086) (tg := 1119) dW_33 hr (by decide) (by decide) rfl (by decide) (lk_25 hL h0 h1 h hK)
  | 26, ha, hn => subst ha; exact k_tsw_in (off := 1110) (tg := 1143) dW_33 hr (by decide) (by decide) rfl (by decide) (lk_26 hL h0 h1 h hK)
  | 27, ha, hn => subst ha; exact k_tsw_in (off := 1144) (tg := 1177) dW_33 hr (by decide) (by decide) rfl (by decide) (lk_27 hL h0 h1 h hK)
  | 28, ha, hn => subst ha; exact k_tsw_in (off := 1177) (tg := 1210) dW_33 hr (by decide) (by decide) rfl (by decide) (lk_28 hL h0 h1 h hK)
  | 29, ha, hn => subst ha; exact k_tsw_in (off := 1200) (tg := 1233) dW_33 hr (by decide) (by decide) rfl (by decide) (lk_29 hL h0 h1 h hK)
  | k + 30, ha, hn => exact k_tsw_out (tg := 1247) dW_33 hr (Or.inr (by omega)) (by decide) (hK _ h)
theorem law_loop (hL : L ≤ 4608) : ∀ (f : Nat) (i : Int), 0 ≤ i → (L : Int) ≤ i + f → i ≤ 5000 → ∀ σ, Rel σ → KJ L xs 18 [(0, vR 1001), (1, vR 0), (2, vR 69), (3, vI i)] [] σ := by
  intro f
  induction f with
  | zero =>
    intro i h0 h2 h3 σ h
    refine k_iload_n (p2 := 19) dW_18 rfl rfl ?_
    refine k_aload_n (p2 := 20) dW_19 rfl rfl ?_
    refine k_slen (p2 := 21) dW_20 rfl ?_
    refine k_bipush (v := 9) (p2 := 23) dW_21 rfl rfl ?_
    refine k_isub (p2 := 24) dW_23 rfl ?_
    refine k_icmp_gt (p2 := 27) (tg := 1253) dW_24 rfl (by decide) (by constructor <;> omega) (by constructor <;> omega) (fun z => ?_) (fun z => ?_)
    · refine k_iconst (p2 := 1254) dW_1253 rfl ?_
      exact k_ret dW_1254
    · exfalso; omega
  | succ f ih =>
    intro i h0 h2 h3 σ h
    refine k_iload_n (p2 := 19) dW_18 rfl rfl ?_
    refine k_aload_n (p2 := 20) dW_19 rfl rfl ?_
    refine k_slen (p2 := 21) dW_20 rfl ?_
    refine k_bipush (v := 9) (p2 := 23) dW_21 rfl rfl ?_
    refine k_isub (p2 := 24) dW_23 rfl ?_
    refine k_icmp_gt (p2 := 27) (tg := 1253) dW_24 rfl (by decide) (by constructor <;> omega) (by constructor <;> omega) (fun z => ?_) (fun z => ?_)
    · refine k_iconst (p2 := 1254) dW_1253 rfl ?_
      exact k_ret dW_1254
    · refine k_aload_n (p2 := 28) dW_27 rfl rfl ?_
      refine k_iload_n (p2 := 29) dW_28 rfl rfl ?_
      refine k_sld (p2 := 30) dW_29 rfl (by omega) (by omega) hL ?_
      refine k_bipush (v := 31) (p2 := 32) dW_30 rfl rfl ?_
      refine k_iand (p2 := 33) dW_32 rfl ?_
      have j := jiand_31 (xs i.toNat).toInt
      refine law_case hL h0 (by omega) h (fun ω hω => ?_) (jiand (xs i.toNat).toInt 31).toNat _ (by omega) (by omega)
      refine k_iinc (p2 := 1250) (lv' := [(0, vR 1001), (1, vR 0), (2, vR 69), (3, vI (i + 9))]) dW_1247 rfl (by decide) rfl ⟨rfl, rfl, rfl, rfl, trivial⟩ ?_
      refine k_goto (p2 := 18) dW_1250 (by decide) ?_
      exact ih (i + 9) (by omega) (by omega) (by omega) ω hω
end KLO
