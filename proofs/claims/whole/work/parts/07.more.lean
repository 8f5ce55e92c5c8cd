theorem cv_l_gt (o : Option Ordering) : 0 < Op.cmpValue o .l ↔ o = some .gt := by rcases o with _ | _ | _ | _ <;> decide
section JX
variable {m : Mt} {pc p2 : Nat} {lv lv' : List (Nat × PV)} {st : List PV} {σ : Hp} {Q : Option PV → Hp → Prop}
theorem j_fcmp_l_gt {x y : UInt32} {off : Int} {p1 tg : Nat} (hd : Dec m pc (.fcmp .l) 1) (h1 : pc + 1 = p1) (hd2 : Dec m p1 (.ifCond .gt off) 3) (hp : p1 + 3 = p2) (ht : (p1 : Int) + off = (tg : Int)) (kt : FP.fcmp x y = some .gt → J m tg lv st σ Q) (kf : ¬ FP.fcmp x y = some .gt → J m p2 lv st σ Q) : J m pc lv (vF y :: vF x :: st) σ Q := by
  subst h1
  subst hp
  exact fun p l e s mid args below meth c H locs ls ad cA D C => lv_fcmp C.1 C.2.1 hd (lv_if_gt C.1 C.2.1 hd2 ht (fun q => kt ((cv_l_gt _).mp q) p l e s mid args below meth c H locs ls ad cA D C) (fun q => kf (fun h => q ((cv_l_gt _).mpr h)) p l e s mid args below meth c H locs ls ad cA D C))
theorem j_dcmp_l_gt {x y : UInt64} {off : Int} {p1 tg : Nat} (hd : Dec m pc (.dcmp .l) 1) (h1 : pc + 1 = p1) (hd2 : Dec m p1 (.ifCond .gt off) 3) (hp : p1 + 3 = p2) (ht : (p1 : Int) + off = (tg : Int)) (kt : FP.dcmp x y = some .gt → J m tg lv st σ Q) (kf : ¬ FP.dcmp x y = some .gt → J m p2 lv st σ Q) : J m pc lv (vD y :: vD x :: st) σ Q := by
  subst h1
  subst hp
  exact fun p l e s mid args below meth c H locs ls ad cA D C => lv_dcmp C.1 C.2.1 hd (lv_if_gt C.1 C.2.1 hd2 ht (fun q => kt ((cv_l_gt _).mp q) p l e s mid args below meth c H locs ls ad cA D C) (fun q => kf (fun h => q ((cv_l_gt _).mpr h)) p l e s mid args below meth c H locs ls ad cA D C))
end JX
theorem ly_0 : lay[0]? = some (.inr (6, [(5, 3), (5, 15), (5, 19), (5, 21), (5, 34), (5, 47), (5, 51), (5, 1), (5, 2), (0, 0), (0, 0), (0, 0), (0, 0)])) := rfl
theorem ly_1 : lay[1]? = some (.inl (2, 20)) := rfl
theorem ly_2 : lay[2]? = some (.inl (4, 20)) := rfl
theorem ly_3 : lay[3]? = some (.inr (2, [(0, 0), (0, 0), (0, 0), (1, 0), (5, 4), (5, 5), (5, 6), (5, 7), (5, 8), (5, 9), (5, 10), (5, 11), (5, 12), (5, 13), (5, 14)])) := rfl
theorem ly_4 : lay[4]? = some (.inl (0, 20)) := rfl
theorem ly_5 : lay[5]? = some (.inl (2, 20)) := rfl
theorem ly_6 : lay[6]? = some (.inl (4, 20)) := rfl
theorem ly_7 : lay[7]? = some (.inl (2, 20)) := rfl
theorem ly_8 : lay[8]? = some (.inl (4, 20)) := rfl
theorem ly_9 : lay[9]? = some (.inl (0, 120)) := rfl
theorem ly_10 : lay[10]? = some (.inl (1, 120)) := rfl
theorem ly_11 : lay[11]? = some (.inl (0, 20)) := rfl
theorem ly_12 : lay[12]? = some (.inl (4, 160)) := rfl
theorem ly_13 : lay[13]? = some (.inl (4, 160)) := rfl
theorem ly_14 : lay[14]? = some (.inl (0, 20)) := rfl
theorem ly_15 : lay[15]? = some (.inr (1, [(5, 3), (5, 16), (5, 17), (0, 0), (5, 18)])) := rfl
theorem ly_16 : lay[16]? = some (.inl (0, 20)) := rfl
theorem ly_17 : lay[17]? = some (.inl (0, 20)) := rfl
theorem ly_18 : lay[18]? = some (.inl (0, 20)) := rfl
theorem ly_19 : lay[19]? = some (.inr (0, [(5, 20), (0, 0)])) := rfl
theorem ly_20 : lay[20]? = some (.inl (0, 20)) := rfl
theorem ly_21 : lay[21]? = some (.inr (5, [(5, 3), (5, 15), (5, 19), (1, 0), (5, 22), (5, 23), (5, 24), (5, 25), (5, 26), (5, 27), (5, 28), (5, 29), (5, 30), (5, 31), (5, 32), (5, 33)])) := rfl
theorem ly_22 : lay[22]? = some (.inl (4, 20)) := rfl
theorem ly_23 : lay[23]? = some (.inl (4, 20)) := rfl
theorem ly_24 : lay[24]? = some (.inl (4, 20)) := rfl
theorem ly_25 : lay[25]? = some (.inl (4, 320)) := rfl
theorem ly_26 : lay[26]? = some (.inl (0, 20)) := rfl
theorem ly_27 : lay[27]? = some (.inl (0, 20)) := rfl
theorem ly_28 : lay[28]? = some (.inl (4, 20)) := rfl
theorem ly_29 : lay[29]? = some (.inl (4, 20)) := rfl
theorem ly_30 : lay[30]? = some (.inl (4, 20)) := rfl
theorem ly_31 : lay[31]? = some (.inl (4, 20)) := rfl
theorem ly_32 : lay[32]? = some (.inl (4, 20)) := rfl
theorem ly_33 : lay[33]? = some (.inl (4, 20)) := rfl
theorem ly_34 : lay[34]? = some (.inr (5, [(5, 3), (5, 15), (5, 19), (1, 0), (5, 35), (5, 36), (5, 37), (5, 38), (5, 39), (5, 40), (5, 41), (5, 42), (5, 43), (5, 44), (5, 45), (5, 46)])) := rfl
theorem ly_35 : lay[35]? = some (.inl (4, 20)) := rfl
theorem ly_36 : lay[36]? = some (.inl (4, 20)) := rfl
theorem ly_37 : lay[37]? = some (.inl (4, 20)) := rfl
theorem ly_38 : lay[38]? = some (.inl (4, 320)) := rfl
theorem ly_39 : lay[39]? = some (.inl (0, 20)) := rfl
theorem ly_40 : lay[40]? = some (.inl (0, 20)) := rfl
theorem ly_41 : lay[41]? = some (.inl (4, 20)) := rfl
theorem ly_42 : lay[42]? = some (.inl (4, 20)) := rfl
theorem ly_43 : lay[43]? = some (.inl (4, 20)) := rfl
theorem ly_44 : lay[44]? = some (.inl (4, 20)) := rfl
theorem ly_45 : lay[45]? = some (.inl (4, 20)) := rfl
theorem ly_46 : lay[46]? = some (.inl (4, 20)) := rfl
theorem ly_47 : lay[47]? = some (.inr (3, [(0, 0), (5, 48), (5, 49), (5, 50)])) := rfl
theorem ly_48 : lay[48]? = some (.inl (0, 6)) := rfl
theorem ly_49 : lay[49]? = some (.inl (0, 6)) := rfl
theorem ly_50 : lay[50]? = some (.inl (2, 720)) := rfl
theorem ly_51 : lay[51]? = some (.inr (4, [(5, 3), (5, 56), (5, 52), (0, 0), (5, 53)])) := rfl
theorem ly_52 : lay[52]? = some (.inl (4, 6)) := rfl
theorem ly_53 : lay[53]? = some (.inl (4, 20)) := rfl
theorem ly_54 : lay[54]? = some (.inr (0, [(5, 55), (0, 0)])) := rfl
theorem ly_55 : lay[55]? = some (.inl (0, 20)) := rfl
theorem ly_56 : lay[56]? = some (.inr (5, [(5, 3), (5, 15), (5, 54), (1, 0), (5, 57), (5, 58), (5, 59), (5, 60), (5, 61), (5, 62), (5, 63), (5, 64), (5, 65), (5, 66), (5, 67), (5, 68)])) := rfl
theorem ly_57 : lay[57]? = some (.inl (4, 20)) := rfl
theorem ly_58 : lay[58]? = some (.inl (4, 20)) := rfl
theorem ly_59 : lay[59]? = some (.inl (4, 20)) := rfl
theorem ly_60 : lay[60]? = some (.inl (4, 320)) := rfl
theorem ly_61 : lay[61]? = some (.inl (0, 20)) := rfl
theorem ly_62 : lay[62]? = some (.inl (0, 20)) := rfl
theorem ly_63 : lay[63]? = some (.inl (4, 20)) := rfl
theorem ly_64 : lay[64]? = some (.inl (4, 20)) := rfl
theorem ly_65 : lay[65]? = some (.inl (4, 20)) := rfl
theorem ly_66 : lay[66]? = some (.inl (4, 20)) := rfl
theorem ly_67 : lay[67]? = some (.inl (4, 20)) := rfl
theorem ly_68 : lay[68]? = some (.inl (4, 20)) := rfl
theorem ly_69 : lay[69]? = some (.inr (7, [(0, 0), (5, 70), (5, 71), (5, 72), (5, 73), (5, 74), (5, 75), (5, 76), (5, 77), (5, 78), (5, 79), (0, 0), (0, 0), (0, 0), (0, 0), (0, 0), (0, 0), (5, 80), (5, 81), (5, 82), (5, 83), (5, 84), (5, 85), (5, 86), (5, 87), (5, 88), (5, 89), (5, 90), (5, 91), (5, 92), (5, 93), (5, 94), (5, 95), (5, 96), (5, 97), (5, 98), (5, 99), (0, 0), (5, 100), (5, 101), (5, 102), (0, 0), (5, 103), (5, 104), (0, 0), (4, 0), (5, 105), (5, 106), (5, 107), (5, 108), (5, 109), (5, 110), (5, 111), (5, 112), (5, 113), (5, 114), (5, 115), (5, 116), (0, 0), (4, 0), (2, 0)])) := rfl
theorem ly_70 : lay[70]? = some (.inl (0, 20)) := rfl
theorem ly_71 : lay[71]? = some (.inl (4, 20)) := rfl
theorem ly_72 : lay[72]? = some (.inl (0, 120)) := rfl
theorem ly_73 : lay[73]? = some (.inl (1, 120)) := rfl
theorem ly_74 : lay[74]? = some (.inl (4, 20)) := rfl
theorem ly_75 : lay[75]? = some (.inl (0, 20)) := rfl
theorem ly_76 : lay[76]? = some (.inl (4, 160)) := rfl
theorem ly_77 : lay[77]? = some (.inl (4, 160)) := rfl
theorem ly_78 : lay[78]? = some (.inl (0, 20)) := rfl
theorem ly_79 : lay[79]? = some (.inl (0, 20)) := rfl
theorem ly_80 : lay[80]? = some (.inl (4, 20)) := rfl
theorem ly_81 : lay[81]? = some (.inl (3, 20)) := rfl
theorem ly_82 : lay[82]? = some (.inl (4, 20)) := rfl
theorem ly_83 : lay[83]? = some (.inl (3, 20)) := rfl
theorem ly_84 : lay[84]? = some (.inl (4, 320)) := rfl
theorem ly_85 : lay[85]? = some (.inl (3, 320)) := rfl
theorem ly_86 : lay[86]? = some (.inl (0, 20)) := rfl
theorem ly_87 : lay[87]? = some (.inl (0, 20)) := rfl
theorem ly_88 : lay[88]? = some (.inl (4, 20)) := rfl
theorem ly_89 : lay[89]? = some (.inl (4, 20)) := rfl
theorem ly_90 : lay[90]? = some (.inl (4, 20)) := rfl
theorem ly_91 : lay[91]? = some (.inl (3, 20)) := rfl
theorem ly_92 : lay[92]? = some (.inl (4, 20)) := rfl
theorem ly_93 : lay[93]? = some (.inl (3, 20)) := rfl
theorem ly_94 : lay[94]? = some (.inl (4, 320)) := rfl
theorem ly_95 : lay[95]? = some (.inl (3, 320)) := rfl
theorem ly_96 : lay[96]? = some (.inl (0, 20)) := rfl
theorem ly_97 : lay[97]? = some (.inl (0, 20)) := rfl
theorem ly_98 : lay[98]? = some (.inl (4, 20)) := rfl
theorem ly_99 : lay[99]? = some (.inl (4, 20)) := rfl
theorem ly_100 : lay[100]? = some (.inl (0, 6)) := rfl
theorem ly_101 : lay[101]? = some (.inl (0, 6)) := rfl
theorem ly_102 : lay[102]? = some (.inl (4, 720)) := rfl
theorem ly_103 : lay[103]? = some (.inl (4, 6)) := rfl
theorem ly_104 : lay[104]? = some (.inl (1, 20)) := rfl
theorem ly_105 : lay[105]? = some (.inl (4, 20)) := rfl
theorem ly_106 : lay[106]? = some (.inl (4, 20)) := rfl
theorem ly_107 : lay[107]? = some (.inl (4, 20)) := rfl
theorem ly_108 : lay[108]? = some (.inl (4, 20)) := rfl
theorem ly_109 : lay[109]? = some (.inl (3, 20)) := rfl
theorem ly_110 : lay[110]? = some (.inl (3, 20)) := rfl
theorem ly_111 : lay[111]? = some (.inl (3, 20)) := rfl
theorem ly_112 : lay[112]? = some (.inl (3, 20)) := rfl
theorem ly_113 : lay[113]? = some (.inl (4, 20)) := rfl
theorem ly_114 : lay[114]? = some (.inl (3, 20)) := rfl
theorem ly_115 : lay[115]? = some (.inl (4, 20)) := rfl
theorem ly_116 : lay[116]? = some (.inl (3, 20)) := rfl
/-! ===== rows of the heap, whole ===== -/
def fup {α : Type} (f : Int → α) (k : Int) (v : α) : Int → α := fun j => if j = k then v else f j
theorem fup_s {α : Type} (f : Int → α) (k : Int) (v : α) : fup f k v k = v := if_pos rfl
theorem fup_n {α : Type} {f : Int → α} {k j : Int} {v : α} (h : j ≠ k) : fup f k v j = f j := if_neg h
def up1 {α : Type} (f : Nat → Int → α) (c : Nat) (g : Int → α) : Nat → Int → α := fun c' => if c' = c then g else f c'
def wI (σ : Hp) (c : Nat) (g : Int → Int) : Hp := (up1 σ.1 c g, σ.2)
def wL (σ : Hp) (c : Nat) (g : Int → Int64) : Hp := (σ.1, up1 σ.2.1 c g, σ.2.2)
def wF (σ : Hp) (c : Nat) (g : Int → UInt32) : Hp := (σ.1, σ.2.1, up1 σ.2.2.1 c g, σ.2.2.2)
def wD (σ : Hp) (c : Nat) (g : Int → UInt64) : Hp := (σ.1, σ.2.1, σ.2.2.1, up1 σ.2.2.2 c g)
theorem up2_eq {α : Type} (f : Nat → Int → α) (c : Nat) (k : Int) (v : α) : up2 f c k v = up1 f c (fup (f c) k v) := by
  funext c' k'
  unfold up2 up1 fup
  by_cases h : c' = c
  · subst h
    by_cases h2 : k' = k
    · rw [if_pos ⟨rfl, h2⟩, if_pos rfl, if_pos h2]
    · rw [if_neg (fun q => h2 q.2), if_pos rfl, if_neg h2]
  · rw [if_neg (fun q => h q.1), if_neg h]
theorem sI_w (σ : Hp) (c : Nat) (k v : Int) : sI σ c k v = wI σ c (fup (hI σ c) k v) := by unfold sI wI; rw [up2_eq]; rfl
theorem sL_w (σ : Hp) (c : Nat) (k : Int) (v : Int64) : sL σ c k v = wL σ c (fup (hL σ c) k v) := by unfold sL wL; rw [up2_eq]; rfl
theorem sF_w (σ : Hp) (c : Nat) (k : Int) (v : UInt32) : sF σ c k v = wF σ c (fup (hF σ c) k v) := by unfold sF wF; rw [up2_eq]; rfl
theorem sD_w (σ : Hp) (c : Nat) (k : Int) (v : UInt64) : sD σ c k v = wD σ c (fup (hD σ c) k v) := by unfold sD wD; rw [up2_eq]; rfl
theorem hI_wI (σ : Hp) (c : Nat) (g : Int → Int) (c' : Nat) : hI (wI σ c g) c' = if c' = c then g else hI σ c' := rfl
theorem hL_wI (σ : Hp) (c : Nat) (g : Int → Int) : hL (wI σ c g) = hL σ := rfl
theorem hF_wI (σ : Hp) (c : Nat) (g : Int → Int) : hF (wI σ c g) = hF σ := rfl
theorem hD_wI (σ : Hp) (c : Nat) (g : Int → Int) : hD (wI σ c g) = hD σ := rfl
theorem hI_wL (σ : Hp) (c : Nat) (g : Int → Int64) : hI (wL σ c g) = hI σ := rfl
theorem hL_wL (σ : Hp) (c : Nat) (g : Int → Int64) (c' : Nat) : hL (wL σ c g) c' = if c' = c then g else hL σ c' := rfl
theorem hF_wL (σ : Hp) (c : Nat) (g : Int → Int64) : hF (wL σ c g) = hF σ := rfl
theorem hD_wL (σ : Hp) (c : Nat) (g : Int → Int64) : hD (wL σ c g) = hD σ := rfl
theorem hI_wF (σ : Hp) (c : Nat) (g : Int → UInt32) : hI (wF σ c g) = hI σ := rfl
theorem hL_wF (σ : Hp) (c : Nat) (g : Int → UInt32) : hL (wF σ c g) = hL σ := rfl
theorem hF_wF (σ : Hp) (c : Nat) (g : Int → UInt32) (c' : Nat) : hF (wF σ c g) c' = if c' = c then g else hF σ c' := rfl
theorem hD_wF (σ : Hp) (c : Nat) (g : Int → UInt32) : hD (wF σ c g) = hD σ := rfl
theorem hI_wD (σ : Hp) (c : Nat) (g : Int → UInt64) : hI (wD σ c g) = hI σ := rfl
theorem hL_wD (σ : Hp) (c : Nat) (g : Int → UInt64) : hL (wD σ c g) = hL σ := rfl
theorem hF_wD (σ : Hp) (c : Nat) (g : Int → UInt64) : hF (wD σ c g) = hF σ := rfl
theorem hD_wD (σ : Hp) (c : Nat) (g : Int → UInt64) (c' : Nat) : hD (wD σ c g) c' = if c' = c then g else hD σ c' := rfl
theorem up1_id {α : Type} (f : Nat → Int → α) (c : Nat) : up1 f c (f c) = f := by
  funext c'; unfold up1
  by_cases h : c' = c
  · subst h; rw [if_pos rfl]
  · rw [if_neg h]
theorem up1_up1 {α : Type} (f : Nat → Int → α) (c : Nat) (g h : Int → α) : up1 (up1 f c g) c h = up1 f c h := by
  funext c'; unfold up1
  by_cases e : c' = c
  · rw [if_pos e, if_pos e]
  · rw [if_neg e, if_neg e, if_neg e]
theorem wI_id (σ : Hp) (c : Nat) : wI σ c (hI σ c) = σ := by unfold wI; exact congrArg (fun z => (z, σ.2)) (up1_id σ.1 c)
theorem wL_id (σ : Hp) (c : Nat) : wL σ c (hL σ c) = σ := by unfold wL; exact congrArg (fun z => (σ.1, z, σ.2.2)) (up1_id σ.2.1 c)
theorem wF_id (σ : Hp) (c : Nat) : wF σ c (hF σ c) = σ := by unfold wF; exact congrArg (fun z => (σ.1, σ.2.1, z, σ.2.2.2)) (up1_id σ.2.2.1 c)
theorem wD_id (σ : Hp) (c : Nat) : wD σ c (hD σ c) = σ := by unfold wD; exact congrArg (fun z => (σ.1, σ.2.1, σ.2.2.1, z)) (up1_id σ.2.2.2 c)
theorem wI_wI (σ : Hp) (c : Nat) (g h : Int → Int) : wI (wI σ c g) c h = wI σ c h := by unfold wI; exact congrArg (fun z => (z, σ.2)) (up1_up1 σ.1 c g h)
theorem wL_wL (σ : Hp) (c : Nat) (g h : Int → Int64) : wL (wL σ c g) c h = wL σ c h := by unfold wL; exact congrArg (fun z => (σ.1, z, σ.2.2)) (up1_up1 σ.2.1 c g h)
theorem wF_wF (σ : Hp) (c : Nat) (g h : Int → UInt32) : wF (wF σ c g) c h = wF σ c h := by unfold wF; exact congrArg (fun z => (σ.1, σ.2.1, z, σ.2.2.2)) (up1_up1 σ.2.2.1 c g h)
theorem wD_wD (σ : Hp) (c : Nat) (g h : Int → UInt64) : wD (wD σ c g) c h = wD σ c h := by unfold wD; exact congrArg (fun z => (σ.1, σ.2.1, σ.2.2.1, z)) (up1_up1 σ.2.2.2 c g h)
/-- outside the cells of S the heaps are one -/
def Fr (S : List Nat) (σ σ' : Hp) : Prop := ∀ c, c ∉ S → hI σ' c = hI σ c ∧ hL σ' c = hL σ c ∧ hF σ' c = hF σ c ∧ hD σ' c = hD σ c
theorem Fr.rf {S : List Nat} {σ : Hp} : Fr S σ σ := fun _ _ => ⟨rfl, rfl, rfl, rfl⟩
theorem Fr.trans {S : List Nat} {a b c : Hp} (h1 : Fr S a b) (h2 : Fr S b c) : Fr S a c := fun x hx => by
  obtain ⟨a1, a2, a3, a4⟩ := h1 x hx
  obtain ⟨b1, b2, b3, b4⟩ := h2 x hx
  exact ⟨b1.trans a1, b2.trans a2, b3.trans a3, b4.trans a4⟩
theorem Fr.weak {S S2 : List Nat} {a b : Hp} (h : Fr S a b) (hs : ∀ c ∈ S, c ∈ S2) : Fr S2 a b := fun c hc => h c (fun q => hc (hs c q))
theorem Fr.I {S : List Nat} {a b : Hp} (h : Fr S a b) {c : Nat} (hc : c ∉ S) : hI b c = hI a c := (h c hc).1
theorem Fr.L {S : List Nat} {a b : Hp} (h : Fr S a b) {c : Nat} (hc : c ∉ S) : hL b c = hL a c := (h c hc).2.1
theorem Fr.F {S : List Nat} {a b : Hp} (h : Fr S a b) {c : Nat} (hc : c ∉ S) : hF b c = hF a c := (h c hc).2.2.1
theorem Fr.D {S : List Nat} {a b : Hp} (h : Fr S a b) {c : Nat} (hc : c ∉ S) : hD b c = hD a c := (h c hc).2.2.2
theorem Fr.wI {S : List Nat} {a b : Hp} {c : Nat} {g : Int → Int} (h : Fr S a b) (hc : c ∈ S) : Fr S a (wI b c g) := fun x hx => by
  obtain ⟨a1, a2, a3, a4⟩ := h x hx
  exact ⟨by rw [hI_wI, if_neg (fun q => hx (by rw [q]; exact hc))]; exact a1, a2, a3, a4⟩
theorem Fr.wL {S : List Nat} {a b : Hp} {c : Nat} {g : Int → Int64} (h : Fr S a b) (hc : c ∈ S) : Fr S a (wL b c g) := fun x hx => by
  obtain ⟨a1, a2, a3, a4⟩ := h x hx
  exact ⟨a1, by rw [hL_wL, if_neg (fun q => hx (by rw [q]; exact hc))]; exact a2, a3, a4⟩
theorem Fr.wF {S : List Nat} {a b : Hp} {c : Nat} {g : Int → UInt32} (h : Fr S a b) (hc : c ∈ S) : Fr S a (wF b c g) := fun x hx => by
  obtain ⟨a1, a2, a3, a4⟩ := h x hx
  exact ⟨a1, a2, by rw [hF_wF, if_neg (fun q => hx (by rw [q]; exact hc))]; exact a3, a4⟩
theorem Fr.wD {S : List Nat} {a b : Hp} {c : Nat} {g : Int → UInt64} (h : Fr S a b) (hc : c ∈ S) : Fr S a (wD b c g) := fun x hx => by
  obtain ⟨a1, a2, a3, a4⟩ := h x hx
  exact ⟨a1, a2, a3, by rw [hD_wD, if_neg (fun q => hx (by rw [q]; exact hc))]; exact a4⟩
/-- the heap behind, without what it holds -/
theorem Q_of {Q : Option PV → Hp → Prop} {r r' : Option PV} {σ σ' : Hp} (h : Q r σ) (e : r = r') (e2 : σ = σ') : Q r' σ' := e ▸ e2 ▸ h
section JK
variable {m : Mt} {pc p2 : Nat} {lv lv' : List (Nat × PV)} {st : List PV} {σ : Hp} {Q : Option PV → Hp → Prop}
theorem j_getIk {idx ci k cc : Nat} {ki : Int} {fds : List (Nat × Nat)} (hd : Dec m pc (.getfield idx) 3) (hp : pc + 3 = p2) (hf : FA (Mo m) idx ci k) (hc : lay[cc]? = some (.inr (ci, fds))) (hk : fds[k]? = some (0, 0)) (he : (k : Int) = ki) (kk : J m p2 lv (vI (hI σ cc ki) :: st) σ Q) : J m pc lv (vR cc :: st) σ Q := by
  subst he
  exact j_getI hd hp hf hc hk kk
theorem j_getZk {idx ci k cc : Nat} {ki : Int} {fds : List (Nat × Nat)} (hd : Dec m pc (.getfield idx) 3) (hp : pc + 3 = p2) (hf : FA (Mo m) idx ci k) (hc : lay[cc]? = some (.inr (ci, fds))) (hk : fds[k]? = some (1, 0)) (he : (k : Int) = ki) (kk : J m p2 lv (vI (hI σ cc ki) :: st) σ Q) : J m pc lv (vR cc :: st) σ Q := by
  subst he
  exact j_getZ hd hp hf hc hk kk
theorem j_getLk {idx ci k cc : Nat} {ki : Int} {fds : List (Nat × Nat)} (hd : Dec m pc (.getfield idx) 3) (hp : pc + 3 = p2) (hf : FA (Mo m) idx ci k) (hc : lay[cc]? = some (.inr (ci, fds))) (hk : fds[k]? = some (2, 0)) (he : (k : Int) = ki) (kk : J m p2 lv (vL (hL σ cc ki) :: st) σ Q) : J m pc lv (vR cc :: st) σ Q := by
  subst he
  exact j_getL hd hp hf hc hk kk
theorem j_getFk {idx ci k cc : Nat} {ki : Int} {fds : List (Nat × Nat)} (hd : Dec m pc (.getfield idx) 3) (hp : pc + 3 = p2) (hf : FA (Mo m) idx ci k) (hc : lay[cc]? = some (.inr (ci, fds))) (hk : fds[k]? = some (3, 0)) (he : (k : Int) = ki) (kk : J m p2 lv (vF (hF σ cc ki) :: st) σ Q) : J m pc lv (vR cc :: st) σ Q := by
  subst he
  exact j_getF hd hp hf hc hk kk
theorem j_getDk {idx ci k cc : Nat} {ki : Int} {fds : List (Nat × Nat)} (hd : Dec m pc (.getfield idx) 3) (hp : pc + 3 = p2) (hf : FA (Mo m) idx ci k) (hc : lay[cc]? = some (.inr (ci, fds))) (hk : fds[k]? = some (4, 0)) (he : (k : Int) = ki) (kk : J m p2 lv (vD (hD σ cc ki) :: st) σ Q) : J m pc lv (vR cc :: st) σ Q := by
  subst he
  exact j_getD hd hp hf hc hk kk
theorem j_putIk {idx ci k cc : Nat} {ki : Int} {fds : List (Nat × Nat)} {x : Int} (hd : Dec m pc (.putfield idx) 3) (hp : pc + 3 = p2) (hf : FW (Mo m) idx ci k .int) (hc : lay[cc]? = some (.inr (ci, fds))) (hk : fds[k]? = some (0, 0)) (he : (k : Int) = ki) (kk : J m p2 lv st (wI σ cc (fup (hI σ cc) ki x)) Q) : J m pc lv (vI x :: vR cc :: st) σ Q := by
  subst he
  rw [← sI_w] at kk
  exact j_putI hd hp hf hc hk kk
theorem j_putZk {idx ci k cc : Nat} {ki : Int} {fds : List (Nat × Nat)} {x : Int} (hd : Dec m pc (.putfield idx) 3) (hp : pc + 3 = p2) (hf : FW (Mo m) idx ci k .boolean) (hc : lay[cc]? = some (.inr (ci, fds))) (hk : fds[k]? = some (1, 0)) (he : (k : Int) = ki) (hx : x = 0 ∨ x = 1) (kk : J m p2 lv st (wI σ cc (fup (hI σ cc) ki x)) Q) : J m pc lv (vI x :: vR cc :: st) σ Q := by
  subst he
  rw [← sI_w] at kk
  exact j_putZ hd hp hf hc hk hx kk
theorem j_putLk {idx ci k cc : Nat} {ki : Int} {fds : List (Nat × Nat)} {x : Int64} (hd : Dec m pc (.putfield idx) 3) (hp : pc + 3 = p2) (hf : FW (Mo m) idx ci k .long) (hc : lay[cc]? = some (.inr (ci, fds))) (hk : fds[k]? = some (2, 0)) (he : (k : Int) = ki) (kk : J m p2 lv st (wL σ cc (fup (hL σ cc) ki x)) Q) : J m pc lv (vL x :: vR cc :: st) σ Q := by
  subst he
  rw [← sL_w] at kk
  exact j_putL hd hp hf hc hk kk
theorem j_putFk {idx ci k cc : Nat} {ki : Int} {fds : List (Nat × Nat)} {x : UInt32} (hd : Dec m pc (.putfield idx) 3) (hp : pc + 3 = p2) (hf : FW (Mo m) idx ci k .float) (hc : lay[cc]? = some (.inr (ci, fds))) (hk : fds[k]? = some (3, 0)) (he : (k : Int) = ki) (kk : J m p2 lv st (wF σ cc (fup (hF σ cc) ki x)) Q) : J m pc lv (vF x :: vR cc :: st) σ Q := by
  subst he
  rw [← sF_w] at kk
  exact j_putF hd hp hf hc hk kk
theorem j_putDk {idx ci k cc : Nat} {ki : Int} {fds : List (Nat × Nat)} {x : UInt64} (hd : Dec m pc (.putfield idx) 3) (hp : pc + 3 = p2) (hf : FW (Mo m) idx ci k .double) (hc : lay[cc]? = some (.inr (ci, fds))) (hk : fds[k]? = some (4, 0)) (he : (k : Int) = ki) (kk : J m p2 lv st (wD σ cc (fup (hD σ cc) ki x)) Q) : J m pc lv (vD x :: vR cc :: st) σ Q := by
  subst he
  rw [← sD_w] at kk
  exact j_putD hd hp hf hc hk kk
theorem j_iastk {cc n : Nat} {i : Int} {x : Int} (hd : Dec m pc .iastore 1) (hp : pc + 1 = p2) (hc : lay[cc]? = some (.inl (0, n))) (hn : n ≤ 1000) (h0 : 0 ≤ i) (h1 : i < n) (kk : J m p2 lv st (wI σ cc (fup (hI σ cc) i x)) Q) : J m pc lv (vI x :: vI i :: vR cc :: st) σ Q := by
  rw [← sI_w] at kk
  exact j_iast hd hp hc hn h0 h1 kk
theorem j_zastk {cc n : Nat} {i : Int} {x : Int} (hd : Dec m pc .bastore 1) (hp : pc + 1 = p2) (hc : lay[cc]? = some (.inl (1, n))) (hn : n ≤ 1000) (h0 : 0 ≤ i) (h1 : i < n) (hx : x = 0 ∨ x = 1) (kk : J m p2 lv st (wI σ cc (fup (hI σ cc) i x)) Q) : J m pc lv (vI x :: vI i :: vR cc :: st) σ Q := by
  rw [← sI_w] at kk
  exact j_zast hd hp hc hn h0 h1 hx kk
theorem j_lastk {cc n : Nat} {i : Int} {x : Int64} (hd : Dec m pc .lastore 1) (hp : pc + 1 = p2) (hc : lay[cc]? = some (.inl (2, n))) (hn : n ≤ 1000) (h0 : 0 ≤ i) (h1 : i < n) (kk : J m p2 lv st (wL σ cc (fup (hL σ cc) i x)) Q) : J m pc lv (vL x :: vI i :: vR cc :: st) σ Q := by
  rw [← sL_w] at kk
  exact j_last hd hp hc hn h0 h1 kk
theorem j_fastk {cc n : Nat} {i : Int} {x : UInt32} (hd : Dec m pc .fastore 1) (hp : pc + 1 = p2) (hc : lay[cc]? = some (.inl (3, n))) (hn : n ≤ 1000) (h0 : 0 ≤ i) (h1 : i < n) (kk : J m p2 lv st (wF σ cc (fup (hF σ cc) i x)) Q) : J m pc lv (vF x :: vI i :: vR cc :: st) σ Q := by
  rw [← sF_w] at kk
  exact j_fast hd hp hc hn h0 h1 kk
theorem j_dastk {cc n : Nat} {i : Int} {x : UInt64} (hd : Dec m pc .dastore 1) (hp : pc + 1 = p2) (hc : lay[cc]? = some (.inl (4, n))) (hn : n ≤ 1000) (h0 : 0 ≤ i) (h1 : i < n) (kk : J m p2 lv st (wD σ cc (fup (hD σ cc) i x)) Q) : J m pc lv (vD x :: vI i :: vR cc :: st) σ Q := by
  rw [← sD_w] at kk
  exact j_dast hd hp hc hn h0 h1 kk
end JK
