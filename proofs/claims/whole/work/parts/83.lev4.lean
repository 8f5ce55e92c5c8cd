/-! ===== the class's levels: isOnCircle ===== -/
/-- one round: those reached, and their sources -/
def moN (Mf : Nat → Nat) (r : Nat) : Nat → Nat
  | 0 => r
  | i + 1 => if r.testBit i = true then moN Mf r i ||| Mf i else moN Mf r i
def moT (Mf : Nat → Nat) (N r : Nat) : Nat → Nat
  | 0 => r
  | t + 1 => moN Mf (moT Mf N r t) N
theorem moN_lt {Mf : Nat → Nat} {r : Nat} (hr : r < 2 ^ 20) : ∀ n : Nat, (∀ k : Nat, k < n → Mf k < 2 ^ 20) → moN Mf r n < 2 ^ 20
  | 0, _ => hr
  | n + 1, h => by
    have ih := moN_lt hr n (fun k hk => h k (by omega))
    show (if r.testBit n = true then moN Mf r n ||| Mf n else moN Mf r n) < 2 ^ 20
    split
    · exact Nat.or_lt_two_pow ih (h n (by omega))
    · exact ih
theorem moN_tb {Mf : Nat → Nat} {r v : Nat} : ∀ n : Nat, (moN Mf r n).testBit v = true ↔ r.testBit v = true ∨ ∃ s : Nat, s < n ∧ r.testBit s = true ∧ (Mf s).testBit v = true
  | 0 => by
    constructor
    · intro h; exact Or.inl h
    · intro h
      rcases h with h | ⟨s, hs, _⟩
      · exact h
      · omega
  | n + 1 => by
    have ih := moN_tb (Mf := Mf) (r := r) (v := v) n
    show (if r.testBit n = true then moN Mf r n ||| Mf n else moN Mf r n).testBit v = true ↔ _
    by_cases g : r.testBit n = true
    · rw [if_pos g, Nat.testBit_or, Bool.or_eq_true, ih]
      constructor
      · intro h
        rcases h with (h | ⟨s, a, b, c⟩) | h
        · exact Or.inl h
        · exact Or.inr ⟨s, by omega, b, c⟩
        · exact Or.inr ⟨n, by omega, g, h⟩
      · intro h
        rcases h with h | ⟨s, a, b, c⟩
        · exact Or.inl (Or.inl h)
        · by_cases e : s = n
          · subst e; exact Or.inr c
          · exact Or.inl (Or.inr ⟨s, by omega, b, c⟩)
    · rw [if_neg g, ih]
      constructor
      · intro h
        rcases h with h | ⟨s, a, b, c⟩
        · exact Or.inl h
        · exact Or.inr ⟨s, by omega, b, c⟩
      · intro h
        rcases h with h | ⟨s, a, b, c⟩
        · exact Or.inl h
        · by_cases e : s = n
          · subst e; exact absurd b g
          · exact Or.inr ⟨s, by omega, b, c⟩
theorem moT_lt {Mf : Nat → Nat} {N r : Nat} (hr : r < 2 ^ 20) (h : ∀ k : Nat, k < N → Mf k < 2 ^ 20) : ∀ t : Nat, moT Mf N r t < 2 ^ 20
  | 0 => hr
  | t + 1 => moN_lt (moT_lt hr h t) N h
theorem moT_iff {kd fr : Int → Int} {N : Nat} {Mf : Nat → Nat} {m : Nat} (hc : CdN fr N) (hm : m < N) (hM : ∀ k : Nat, k < N → MskS kd fr k (Mf k)) {v : Nat} (hv : v < N) : (moT Mf N (Mf m) N).testBit v = true ↔ Rch kd fr m v := by
  have snd : ∀ t : Nat, ∀ v : Nat, v < N → (moT Mf N (Mf m) t).testBit v = true → Rch kd fr m v := by
    intro t
    induction t with
    | zero => intro v hv h; exact Rch.src (((hM m hm).2 v).mp h)
    | succ t ih =>
      intro v hv h
      rcases (moN_tb N).mp h with h | ⟨s, a, b, c⟩
      · exact ih v hv h
      · exact (ih s a b).step (((hM s a).2 v).mp c)
  constructor
  · exact snd N v hv
  · intro h
    have fx : ∀ t : Nat, (∀ k : Int, 0 ≤ k → k < N → (moT Mf N (Mf m) (t + 1)).testBit k.toNat = true → (moT Mf N (Mf m) t).testBit k.toNat = true) → ∀ k s : Nat, k < N → (moT Mf N (Mf m) t).testBit k = true → srcM kd fr k s → (moT Mf N (Mf m) t).testBit s = true := fun t hf k s hk hb hs => by
      have sb := (Rch.src hs).lt hc ⟨by omega, by omega⟩
      have := hf s sb.1 sb.2 (by rw [Int.toNat_natCast]; exact (moN_tb N).mpr (Or.inr ⟨k, hk, hb, ((hM k hk).2 s).mpr hs⟩))
      rw [Int.toNat_natCast] at this
      exact this
    have gr := grow (N := N) (c := 1) (S := fun t k => (moT Mf N (Mf m) t).testBit k.toNat = true) ?_ (fun t k _ _ s => (moN_tb N).mpr (Or.inl s)) (fun t hf k a b s => ?_) N
    · rcases gr with g | g
      · have := h (fun k => (0 ≤ k ∧ k < N) ∧ (moT Mf N (Mf m) N).testBit k.toNat = true) ⟨fun s q => ?_, fun k s a q => ?_⟩
        · have := this.2; rw [Int.toNat_natCast] at this; exact this
        · have sb := (Rch.src q).lt hc ⟨by omega, by omega⟩
          refine ⟨sb, ?_⟩
          have h0 : (Mf m).testBit s.toNat = true := ((hM m hm).2 s.toNat).mpr (by rw [show ((s.toNat : Nat) : Int) = s by omega]; exact q)
          have up : ∀ t : Nat, (moT Mf N (Mf m) t).testBit s.toNat = true := by
            intro t
            induction t with
            | zero => exact h0
            | succ t ih => exact (moN_tb N).mpr (Or.inl ih)
          exact up N
        · have sb := (Rch.src q).lt hc a.1
          exact ⟨sb, fx N g k.toNat s.toNat (by omega) a.2 (by rw [show ((s.toNat : Nat) : Int) = s by omega, show ((k.toNat : Nat) : Int) = k by omega]; exact q)⟩
      · have := cntP_le (fun k => (moT Mf N (Mf m) N).testBit k.toNat = true) N
        omega
    · by_cases z : ∃ k : Int, 0 ≤ k ∧ k < N ∧ (Mf m).testBit k.toNat = true
      · right
        obtain ⟨k, a, b, c⟩ := z
        have e0 : ∀ n, cntP (fun _ => False) n = 0 := fun n => by
          induction n with
          | zero => rfl
          | succ n ih => rw [(cntP_s (fun _ => False) n).2 (fun z => z), ih]
        have := cntP_lt (p := fun _ => False) (q := fun k => (moT Mf N (Mf m) 0).testBit k.toNat = true) N (fun _ _ _ h => h.elim) a b (fun h => h) c
        rw [e0] at this
        omega
      · left
        intro k a b s
        rcases (moN_tb N).mp s with s | ⟨x, x1, x2, x3⟩
        · exact s
        · exact absurd ⟨(x : Int), by omega, by omega, by rw [Int.toNat_natCast]; exact x2⟩ z
    · rcases (moN_tb N).mp s with s | ⟨x, x1, x2, x3⟩
      · exact s
      · have := hf x (by omega) (by omega) (by rw [Int.toNat_natCast]; exact x2)
        rw [Int.toNat_natCast] at this
        exact (moN_tb N).mpr (Or.inr ⟨x, x1, this, x3⟩)
section LEV4
variable {σ : Hp} {Q : Option PV → Hp → Prop}
theorem cV_isOnCircle {fr : Int → Int} {N : Nat} {m : Int} (hc : CtI σ fr N) (hm : 0 ≤ m ∧ m < N) (hL : LevR σ fr N) (hQ : Q (some (vI (bI (circ (hI σ 4) fr N m)))) σ) : Sp mV_isOnCircle [vR 15, vI m] σ Q := by
  have hcd := hc.cd
  have hN := hc.1
  have hN2 := hc.2.1
  obtain ⟨h16, h18, hord⟩ := hL
  have hb := lvC_b (kd := hI σ 4) hcd
  have ci := circ_iff (kd := hI σ 4) hcd hm
  obtain ⟨k, hk⟩ : ∃ k : Nat, m = k := ⟨m.toNat, by omega⟩
  subst hk
  obtain ⟨Mf, hMf⟩ : ∃ Mf : Nat → Nat, Mf = fun (j : Nat) => (hI σ 18 j).toNat := ⟨_, rfl⟩
  have hM : ∀ j : Nat, j < N → hI σ 18 j = Mf j ∧ MskS (hI σ 4) fr j (Mf j) := fun j hj => by
    obtain ⟨M, a, b⟩ := h18 j (by omega) (by omega)
    have e : Mf j = M := by rw [hMf]; show (hI σ 18 j).toNat = M; rw [a]; rfl
    rw [e]; exact ⟨a, b⟩
  have hMl : ∀ j : Nat, j < N → Mf j < 2 ^ 20 := fun j hj => (hM j hj).2.1
  have hrl := moT_lt (Mf := Mf) (N := N) (hMl k (by omega)) hMl
  have no : ¬ hI σ 16 k = -1 → Q (some (vI 0)) σ := fun h => by
    rw [h16 k hm.1 hm.2] at h
    have h2 := lvs_circ (kd := hI σ 4) (lv := fun _ => 0) hcd hm.1 hm.2 h
    have e : circ (hI σ 4) fr N k = false := by
      cases z : circ (hI σ 4) fr N k with
      | false => rfl
      | true => exact absurd (ci.mp z) h2
    rw [e] at hQ; exact hQ
  have mt := moT_iff (v := k) hcd (by omega : k < N) (fun j hj => (hM j hj).2) (by omega)
  have yes : ∀ b : Bool, ((moT Mf N (Mf k) N).testBit k = true ↔ b = true) → Q (some (vI (bI b))) σ := fun b h => by
    have e : circ (hI σ 4) fr N k = b := by
      cases z : circ (hI σ 4) fr N k with
      | false =>
        cases w : b with
        | false => rfl
        | true =>
          have q := ci.mpr (mt.mp (h.mpr w))
          rw [z] at q; cases q
      | true =>
        have q := h.mp (mt.mpr (ci.mp z))
        rw [q]
    rw [e] at hQ; exact hQ
  have inner : ∀ (t r : Nat), t < N → r < 2 ^ 20 → J mV_isOnCircle 21 [(0, vR 15), (1, vI k), (2, vI (moN Mf r N : Nat)), (3, vI (t + 1))] [] σ Q → ∀ (n i : Nat), i ≤ N → N + 1 ≤ i + n → J mV_isOnCircle 38 [(0, vR 15), (1, vI k), (2, vI (r : Nat)), (3, vI t), (4, vI (moN Mf r i : Nat)), (5, vI i)] [] σ Q := by
    intro t r ht hr kk n
    induction n with
    | zero => intro i h1 h2; exact absurd h2 (by omega)
    | succ n ih =>
      intro i h1 h2
      have ml := moN_lt (Mf := Mf) hr i (fun j hj => hMl j (by omega))
      have bt := fun z : i < N => bit_iff (M := r) (s := i) (by omega) (by omega)
      have bi := fun z : i < N => bit_inR (M := r) (s := i) (by omega) (by omega)
      have nx : i < N → ¬ r.testBit i = true → J mV_isOnCircle 38 [(0, vR 15), (1, vI k), (2, vI (r : Nat)), (3, vI t), (4, vI (moN Mf r i : Nat)), (5, vI (i + 1))] [] σ Q := fun z g => by
        have := ih (i + 1) (by omega) (by omega)
        have e : moN Mf r (i + 1) = moN Mf r i := if_neg g
        rw [e] at this; exact this
      have ny : i < N → r.testBit i = true → J mV_isOnCircle 38 [(0, vR 15), (1, vI k), (2, vI (r : Nat)), (3, vI t), (4, vI (jior (moN Mf r i : Int) (hI σ 18 i))), (5, vI (i + 1))] [] σ Q := fun z g => by
        have := ih (i + 1) (by omega) (by omega)
        have e : moN Mf r (i + 1) = moN Mf r i ||| Mf i := if_pos g
        have hi := hMl i z
        rw [(hM i z).1, i_or (by omega) (by omega)]
        rw [e] at this; exact this
      refine j_iload (p2 := 40) dV_isOnCircle_38 rfl rfl ?_
      refine j_aload_n (p2 := 41) dV_isOnCircle_40 rfl rfl ?_
      refine j_getR (p2 := 44) dV_isOnCircle_41 rfl fa_V_21 ly_15 rfl ?_
      refine j_getIk (p2 := 47) dV_isOnCircle_44 rfl fa_V_31 ly_3 rfl (ki := 0) rfl ?_
      refine j_icmp_ge (p2 := 50) (tg := 77) dV_isOnCircle_47 rfl (by decide) (by constructor <;> omega) (by constructor <;> omega) (fun h47 => ?_) (fun h47 => ?_)
      · refine j_iload (p2 := 79) dV_isOnCircle_77 rfl rfl ?_
        refine j_istore_n (p2 := 80) (lv' := [(0, _), (1, _), (2, _), (3, _)]) dV_isOnCircle_79 rfl (Nat.le_of_ble_eq_true rfl) ⟨rfl, rfl, rfl, rfl, trivial⟩ ?_
        refine j_iinc (p2 := 83) (lv' := [(0, _), (1, _), (2, _), (3, _)]) dV_isOnCircle_80 rfl (Nat.le_of_ble_eq_true rfl) rfl ⟨rfl, rfl, rfl, rfl, trivial⟩ ?_
        refine j_goto (p2 := 21) dV_isOnCircle_83 (by decide) ?_
        refine J.loc (lv' := [(0, _), (1, _), (2, _), (3, _)]) ⟨rfl, rfl, rfl, rfl, trivial⟩ ?_
        have e : i = N := by omega
        subst e
        exact kk
      · refine j_iload_n (p2 := 51) dV_isOnCircle_50 rfl rfl ?_
        refine j_iload (p2 := 53) dV_isOnCircle_51 rfl rfl ?_
        refine j_ishr (p2 := 54) dV_isOnCircle_53 rfl ?_
        refine j_iconst (p2 := 55) dV_isOnCircle_54 rfl ?_
        refine j_iand (p2 := 56) dV_isOnCircle_55 rfl ?_
        refine j_if_eq (p2 := 59) (tg := 71) dV_isOnCircle_56 rfl (by decide) (by exact bi (by omega)) (fun h56 => ?_) (fun h56 => ?_)
        · refine j_iinc (p2 := 74) (lv' := [(0, _), (1, _), (2, _), (3, _), (4, _), (5, _)]) dV_isOnCircle_71 rfl (Nat.le_of_ble_eq_true rfl) rfl ⟨rfl, rfl, rfl, rfl, rfl, rfl, trivial⟩ ?_
          refine j_goto (p2 := 38) dV_isOnCircle_74 (by decide) ?_
          refine J.loc (lv' := [(0, _), (1, _), (2, _), (3, _), (4, _), (5, _)]) ⟨rfl, rfl, rfl, rfl, rfl, rfl, trivial⟩ ?_
          first
            | (have g := (bt (by omega)).mp h56
               exact nx (by omega) g)
            | (have g : r.testBit i = true := Classical.byContradiction (fun z => h56 ((bt (by omega)).mpr z))
               exact ny (by omega) g)
        · refine j_iload (p2 := 61) dV_isOnCircle_59 rfl rfl ?_
          refine j_aload_n (p2 := 62) dV_isOnCircle_61 rfl rfl ?_
          refine j_getR (p2 := 65) dV_isOnCircle_62 rfl fa_V_18 ly_15 rfl ?_
          refine j_iload (p2 := 67) dV_isOnCircle_65 rfl rfl ?_
          refine j_iald (p2 := 68) dV_isOnCircle_67 rfl ly_18 (by decide) (by omega) (by omega) ?_
          refine j_ior (p2 := 69) dV_isOnCircle_68 rfl ?_
          refine j_istore (p2 := 71) (lv' := [(0, _), (1, _), (2, _), (3, _), (4, _), (5, _)]) dV_isOnCircle_69 rfl (Nat.le_of_ble_eq_true rfl) ⟨rfl, rfl, rfl, rfl, rfl, rfl, trivial⟩ ?_
          refine j_iinc (p2 := 74) (lv' := [(0, _), (1, _), (2, _), (3, _), (4, _), (5, _)]) dV_isOnCircle_71 rfl (Nat.le_of_ble_eq_true rfl) rfl ⟨rfl, rfl, rfl, rfl, rfl, rfl, trivial⟩ ?_
          refine j_goto (p2 := 38) dV_isOnCircle_74 (by decide) ?_
          refine J.loc (lv' := [(0, _), (1, _), (2, _), (3, _), (4, _), (5, _)]) ⟨rfl, rfl, rfl, rfl, rfl, rfl, trivial⟩ ?_
          first
            | (have g := (bt (by omega)).mp h56
               exact nx (by omega) g)
            | (have g : r.testBit i = true := Classical.byContradiction (fun z => h56 ((bt (by omega)).mpr z))
               exact ny (by omega) g)
  have outer : ∀ (n t : Nat), t ≤ N → N + 1 ≤ t + n → J mV_isOnCircle 21 [(0, vR 15), (1, vI k), (2, vI (moT Mf N (Mf k) t : Nat)), (3, vI t)] [] σ Q := by
    intro n
    induction n with
    | zero => intro t h1 h2; exact absurd h2 (by omega)
    | succ n ih =>
      intro t h1 h2
      have ml := hrl t
      have inn := fun z : t < N => inner t (moT Mf N (Mf k) t) z ml (ih (t + 1) (by omega) (by omega)) (N + 1) 0 (by omega) (by omega)
      have mN := hrl N
      have bt := bit_iff (M := moT Mf N (Mf k) N) (s := k) (by omega) (by omega)
      have bi := bit_inR (M := moT Mf N (Mf k) N) (s := k) (by omega) (by omega)
      have fin : t = N → J mV_isOnCircle 86 [(1, vI k), (2, vI (moT Mf N (Mf k) t : Nat))] [] σ Q := fun e => by
        subst e
        refine j_iload_n (p2 := 87) dV_isOnCircle_86 rfl rfl ?_
        refine j_iload_n (p2 := 88) dV_isOnCircle_87 rfl rfl ?_
        refine j_ishr (p2 := 89) dV_isOnCircle_88 rfl ?_
        refine j_iconst (p2 := 90) dV_isOnCircle_89 rfl ?_
        refine j_iand (p2 := 91) dV_isOnCircle_90 rfl ?_
        refine j_if_eq (p2 := 94) (tg := 98) dV_isOnCircle_91 rfl (by decide) (by exact bi) (fun h91 => ?_) (fun h91 => ?_)
        · refine j_iconst (p2 := 99) dV_isOnCircle_98 rfl ?_
          refine j_zreturn dV_isOnCircle_99 rfl (by first | exact Or.inl rfl | exact Or.inr rfl | exact bI_or _ | omega) (by first | exact yes true (by constructor <;> intro _; rfl; exact Classical.byContradiction (fun z => h91 (bt.mpr z))) | exact yes false (by constructor <;> intro q; exact absurd q (bt.mp h91); cases q))
        · refine j_iconst (p2 := 95) dV_isOnCircle_94 rfl ?_
          refine j_goto (p2 := 99) dV_isOnCircle_95 (by decide) ?_
          refine j_zreturn dV_isOnCircle_99 rfl (by first | exact Or.inl rfl | exact Or.inr rfl | exact bI_or _ | omega) (by first | exact yes true (by constructor <;> intro _; rfl; exact Classical.byContradiction (fun z => h91 (bt.mpr z))) | exact yes false (by constructor <;> intro q; exact absurd q (bt.mp h91); cases q))
      refine j_iload_n (p2 := 22) dV_isOnCircle_21 rfl rfl ?_
      refine j_aload_n (p2 := 23) dV_isOnCircle_22 rfl rfl ?_
      refine j_getR (p2 := 26) dV_isOnCircle_23 rfl fa_V_21 ly_15 rfl ?_
      refine j_getIk (p2 := 29) dV_isOnCircle_26 rfl fa_V_31 ly_3 rfl (ki := 0) rfl ?_
      refine j_icmp_ge (p2 := 32) (tg := 86) dV_isOnCircle_29 rfl (by decide) (by constructor <;> omega) (by constructor <;> omega) (fun h29 => ?_) (fun h29 => ?_)
      · refine J.loc (lv' := [(1, _), (2, _)]) ⟨rfl, rfl, trivial⟩ ?_
        exact fin (by omega)
      · refine j_iload_n (p2 := 33) dV_isOnCircle_32 rfl rfl ?_
        refine j_istore (p2 := 35) (lv' := [(0, _), (1, _), (2, _), (3, _), (4, _)]) dV_isOnCircle_33 rfl (Nat.le_of_ble_eq_true rfl) ⟨rfl, rfl, rfl, rfl, rfl, trivial⟩ ?_
        refine j_iconst (p2 := 36) dV_isOnCircle_35 rfl ?_
        refine j_istore (p2 := 38) (lv' := [(0, _), (1, _), (2, _), (3, _), (4, _), (5, _)]) dV_isOnCircle_36 rfl (Nat.le_of_ble_eq_true rfl) ⟨rfl, rfl, rfl, rfl, rfl, rfl, trivial⟩ ?_
        refine J.loc (lv' := [(0, _), (1, _), (2, _), (3, _), (4, _), (5, _)]) ⟨rfl, rfl, rfl, rfl, rfl, rfl, trivial⟩ ?_
        exact inn (by omega)
  have start := outer (N + 1) 0 (by omega) (by omega)
  have e18 : hI σ 18 k = Mf k := (hM k (by omega)).1
  have h16b : -1 ≤ hI σ 16 k ∧ hI σ 16 k ≤ 20 := by rw [h16 k hm.1 hm.2]; have := hb k hm.1 hm.2; omega
  refine j_aload_n (p2 := 1) dV_isOnCircle_0 rfl rfl ?_
  refine j_getR (p2 := 4) dV_isOnCircle_1 rfl fa_V_9 ly_15 rfl ?_
  refine j_iload_n (p2 := 5) dV_isOnCircle_4 rfl rfl ?_
  refine j_iald (p2 := 6) dV_isOnCircle_5 rfl ly_16 (by decide) (by omega) (by omega) ?_
  refine j_iconst (p2 := 7) dV_isOnCircle_6 rfl ?_
  refine j_icmp_eq (p2 := 10) (tg := 12) dV_isOnCircle_7 rfl (by decide) (by constructor <;> omega) (by constructor <;> omega) (fun h7 => ?_) (fun h7 => ?_)
  · refine j_aload_n (p2 := 13) dV_isOnCircle_12 rfl rfl ?_
    refine j_getR (p2 := 16) dV_isOnCircle_13 rfl fa_V_18 ly_15 rfl ?_
    refine j_iload_n (p2 := 17) dV_isOnCircle_16 rfl rfl ?_
    refine j_iald (p2 := 18) dV_isOnCircle_17 rfl ly_18 (by decide) (by omega) (by omega) ?_
    refine j_istore_n (p2 := 19) (lv' := [(0, _), (1, _), (2, _)]) dV_isOnCircle_18 rfl (Nat.le_of_ble_eq_true rfl) ⟨rfl, rfl, rfl, trivial⟩ ?_
    refine j_iconst (p2 := 20) dV_isOnCircle_19 rfl ?_
    refine j_istore_n (p2 := 21) (lv' := [(0, _), (1, _), (2, _), (3, _)]) dV_isOnCircle_20 rfl (Nat.le_of_ble_eq_true rfl) ⟨rfl, rfl, rfl, rfl, trivial⟩ ?_
    refine J.loc (lv' := [(0, _), (1, _), (2, _), (3, _)]) ⟨rfl, rfl, rfl, rfl, trivial⟩ ?_
    rw [e18]
    exact start
  · refine j_iconst (p2 := 11) dV_isOnCircle_10 rfl ?_
    refine j_zreturn dV_isOnCircle_11 rfl (by first | exact Or.inl rfl | exact Or.inr rfl | exact bI_or _ | omega) (by exact no h7)
end LEV4
