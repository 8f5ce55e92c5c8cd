/-! ===== the first heap ===== -/
def h0I (c : Nat) : Int → Int := if c = 3 then (fun k => if k = 2 then 4 else if k = 3 then 1 else 0) else if c = 20 then (fun k => if k.toNat < 20 then -1 else 0) else if c = 34 then (fun k => if k = 3 then 1 else 0) else if c = 55 then (fun k => if k.toNat < 20 then -1 else 0) else if c = 69 then (fun k => if k = 14 then 4 else 0) else if c = 72 then (fun k => if k.toNat < 120 then -1 else 0) else if c = 87 then (fun k => if k.toNat < 20 then -1 else 0) else (fun _ => 0)
def sg0 : Hp := (h0I, fun _ _ => 0, fun _ _ => 0, fun _ _ => 0)
def adrs (h0 h1 : Nat) (u v : Nat → Nat) (t b : Nat) (c : Nat) : Nat := if c = 0 then h0 else if c = 69 then h1 else if c < 69 then u c else if c < 117 then v (c - 69) else if c = 1000 then t else b
section FST
variable {h0 h1 t b : Nat} {u v : Nat → Nat} {cA : Nat → ClassId} {d : LC}
theorem wf_69f : ([(0, 0), (5, 70), (5, 71), (5, 72), (5, 73), (5, 74), (5, 75), (5, 76), (5, 77), (5, 78), (5, 79), (0, 0), (0, 0), (0, 0), (0, 0), (0, 0), (0, 0), (5, 80), (5, 81), (5, 82), (5, 83), (5, 84), (5, 85), (5, 86), (5, 87), (5, 88), (5, 89), (5, 90), (5, 91), (5, 92), (5, 93), (5, 94), (5, 95), (5, 96), (5, 97), (5, 98), (5, 99), (0, 0), (5, 100), (5, 101), (5, 102), (0, 0), (5, 103), (5, 104), (0, 0), (4, 0), (5, 105), (5, 106), (5, 107), (5, 108), (5, 109), (5, 110), (5, 111), (5, 112), (5, 113), (5, 114), (5, 115), (5, 116), (0, 0), (4, 0), (2, 0)] : List (Nat × Nat)).mapIdx (fun k fd => fv (adrs h0 h1 u v t b) sg0 69 k fd) = [.int 0, .ref (v 1), .ref (v 2), .ref (v 3), .ref (v 4), .ref (v 5), .ref (v 6), .ref (v 7), .ref (v 8), .ref (v 9), .ref (v 10), .int 0, .int 0, .int 0, .int 4, .int 0, .int 0, .ref (v 11), .ref (v 12), .ref (v 13), .ref (v 14), .ref (v 15), .ref (v 16), .ref (v 17), .ref (v 18), .ref (v 19), .ref (v 20), .ref (v 21), .ref (v 22), .ref (v 23), .ref (v 24), .ref (v 25), .ref (v 26), .ref (v 27), .ref (v 28), .ref (v 29), .ref (v 30), .int 0, .ref (v 31), .ref (v 32), .ref (v 33), .int 0, .ref (v 34), .ref (v 35), .int 0, .double 0, .ref (v 36), .ref (v 37), .ref (v 38), .ref (v 39), .ref (v 40), .ref (v 41), .ref (v 42), .ref (v 43), .ref (v 44), .ref (v 45), .ref (v 46), .ref (v 47), .int 0, .double 0, .long 0] := by
  apply List.ext_getElem?
  intro j
  rw [List.getElem?_mapIdx]
  match j with
  | 0 => rfl
  | 1 => rfl
  | 2 => rfl
  | 3 => rfl
  | 4 => rfl
  | 5 => rfl
  | 6 => rfl
  | 7 => rfl
  | 8 => rfl
  | 9 => rfl
  | 10 => rfl
  | 11 => rfl
  | 12 => rfl
  | 13 => rfl
  | 14 => rfl
  | 15 => rfl
  | 16 => rfl
  | 17 => rfl
  | 18 => rfl
  | 19 => rfl
  | 20 => rfl
  | 21 => rfl
  | 22 => rfl
  | 23 => rfl
  | 24 => rfl
  | 25 => rfl
  | 26 => rfl
  | 27 => rfl
  | 28 => rfl
  | 29 => rfl
  | 30 => rfl
  | 31 => rfl
  | 32 => rfl
  | 33 => rfl
  | 34 => rfl
  | 35 => rfl
  | 36 => rfl
  | 37 => rfl
  | 38 => rfl
  | 39 => rfl
  | 40 => rfl
  | 41 => rfl
  | 42 => rfl
  | 43 => rfl
  | 44 => rfl
  | 45 => rfl
  | 46 => rfl
  | 47 => rfl
  | 48 => rfl
  | 49 => rfl
  | 50 => rfl
  | 51 => rfl
  | 52 => rfl
  | 53 => rfl
  | 54 => rfl
  | 55 => rfl
  | 56 => rfl
  | 57 => rfl
  | 58 => rfl
  | 59 => rfl
  | 60 => rfl
  | j + 61 => rfl
theorem wf_0 (h : lay[0]? = some d) : (nwX cA h0 u ++ nwM cA h1 v)[0]? = some (adrs h0 h1 u v t b 0, cE (adrs h0 h1 u v t b) cA sg0 0 d) := by
  have e := Option.some.inj (ly_0.symm.trans h)
  subst e
  rfl
theorem wf_1 (h : lay[1]? = some d) : (nwX cA h0 u ++ nwM cA h1 v)[1]? = some (adrs h0 h1 u v t b 1, cE (adrs h0 h1 u v t b) cA sg0 1 d) := by
  have e := Option.some.inj (ly_1.symm.trans h)
  subst e
  rfl
theorem wf_2 (h : lay[2]? = some d) : (nwX cA h0 u ++ nwM cA h1 v)[2]? = some (adrs h0 h1 u v t b 2, cE (adrs h0 h1 u v t b) cA sg0 2 d) := by
  have e := Option.some.inj (ly_2.symm.trans h)
  subst e
  rfl
theorem wf_3 (h : lay[3]? = some d) : (nwX cA h0 u ++ nwM cA h1 v)[3]? = some (adrs h0 h1 u v t b 3, cE (adrs h0 h1 u v t b) cA sg0 3 d) := by
  have e := Option.some.inj (ly_3.symm.trans h)
  subst e
  rfl
theorem wf_4 (h : lay[4]? = some d) : (nwX cA h0 u ++ nwM cA h1 v)[4]? = some (adrs h0 h1 u v t b 4, cE (adrs h0 h1 u v t b) cA sg0 4 d) := by
  have e := Option.some.inj (ly_4.symm.trans h)
  subst e
  rfl
theorem wf_5 (h : lay[5]? = some d) : (nwX cA h0 u ++ nwM cA h1 v)[5]? = some (adrs h0 h1 u v t b 5, cE (adrs h0 h1 u v t b) cA sg0 5 d) := by
  have e := Option.some.inj (ly_5.symm.trans h)
  subst e
  rfl
theorem wf_6 (h : lay[6]? = some d) : (nwX cA h0 u ++ nwM cA h1 v)[6]? = some (adrs h0 h1 u v t b 6, cE (adrs h0 h1 u v t b) cA sg0 6 d) := by
  have e := Option.some.inj (ly_6.symm.trans h)
  subst e
  rfl
theorem wf_7 (h : lay[7]? = some d) : (nwX cA h0 u ++ nwM cA h1 v)[7]? = some (adrs h0 h1 u v t b 7, cE (adrs h0 h1 u v t b) cA sg0 7 d) := by
  have e := Option.some.inj (ly_7.symm.trans h)
  subst e
  rfl
theorem wf_8 (h : lay[8]? = some d) : (nwX cA h0 u ++ nwM cA h1 v)[8]? = some (adrs h0 h1 u v t b 8, cE (adrs h0 h1 u v t b) cA sg0 8 d) := by
  have e := Option.some.inj (ly_8.symm.trans h)
  subst e
  rfl
theorem wf_9 (h : lay[9]? = some d) : (nwX cA h0 u ++ nwM cA h1 v)[9]? = some (adrs h0 h1 u v t b 9, cE (adrs h0 h1 u v t b) cA sg0 9 d) := by
  have e := Option.some.inj (ly_9.symm.trans h)
  subst e
  rfl
theorem wf_10 (h : lay[10]? = some d) : (nwX cA h0 u ++ nwM cA h1 v)[10]? = some (adrs h0 h1 u v t b 10, cE (adrs h0 h1 u v t b) cA sg0 10 d) := by
  have e := Option.some.inj (ly_10.symm.trans h)
  subst e
  rfl
theorem wf_11 (h : lay[11]? = some d) : (nwX cA h0 u ++ nwM cA h1 v)[11]? = some (adrs h0 h1 u v t b 11, cE (adrs h0 h1 u v t b) cA sg0 11 d) := by
  have e := Option.some.inj (ly_11.symm.trans h)
  subst e
  rfl
theorem wf_12 (h : lay[12]? = some d) : (nwX cA h0 u ++ nwM cA h1 v)[12]? = some (adrs h0 h1 u v t b 12, cE (adrs h0 h1 u v t b) cA sg0 12 d) := by
  have e := Option.some.inj (ly_12.symm.trans h)
  subst e
  rfl
theorem wf_13 (h : lay[13]? = some d) : (nwX cA h0 u ++ nwM cA h1 v)[13]? = some (adrs h0 h1 u v t b 13, cE (adrs h0 h1 u v t b) cA sg0 13 d) := by
  have e := Option.some.inj (ly_13.symm.trans h)
  subst e
  rfl
theorem wf_14 (h : lay[14]? = some d) : (nwX cA h0 u ++ nwM cA h1 v)[14]? = some (adrs h0 h1 u v t b 14, cE (adrs h0 h1 u v t b) cA sg0 14 d) := by
  have e := Option.some.inj (ly_14.symm.trans h)
  subst e
  rfl
theorem wf_15 (h : lay[15]? = some d) : (nwX cA h0 u ++ nwM cA h1 v)[15]? = some (adrs h0 h1 u v t b 15, cE (adrs h0 h1 u v t b) cA sg0 15 d) := by
  have e := Option.some.inj (ly_15.symm.trans h)
  subst e
  rfl
theorem wf_16 (h : lay[16]? = some d) : (nwX cA h0 u ++ nwM cA h1 v)[16]? = some (adrs h0 h1 u v t b 16, cE (adrs h0 h1 u v t b) cA sg0 16 d) := by
  have e := Option.some.inj (ly_16.symm.trans h)
  subst e
  rfl
theorem wf_17 (h : lay[17]? = some d) : (nwX cA h0 u ++ nwM cA h1 v)[17]? = some (adrs h0 h1 u v t b 17, cE (adrs h0 h1 u v t b) cA sg0 17 d) := by
  have e := Option.some.inj (ly_17.symm.trans h)
  subst e
  rfl
theorem wf_18 (h : lay[18]? = some d) : (nwX cA h0 u ++ nwM cA h1 v)[18]? = some (adrs h0 h1 u v t b 18, cE (adrs h0 h1 u v t b) cA sg0 18 d) := by
  have e := Option.some.inj (ly_18.symm.trans h)
  subst e
  rfl
theorem wf_19 (h : lay[19]? = some d) : (nwX cA h0 u ++ nwM cA h1 v)[19]? = some (adrs h0 h1 u v t b 19, cE (adrs h0 h1 u v t b) cA sg0 19 d) := by
  have e := Option.some.inj (ly_19.symm.trans h)
  subst e
  rfl
theorem wf_20 (h : lay[20]? = some d) : (nwX cA h0 u ++ nwM cA h1 v)[20]? = some (adrs h0 h1 u v t b 20, cE (adrs h0 h1 u v t b) cA sg0 20 d) := by
  have e := Option.some.inj (ly_20.symm.trans h)
  subst e
  rfl
theorem wf_21 (h : lay[21]? = some d) : (nwX cA h0 u ++ nwM cA h1 v)[21]? = some (adrs h0 h1 u v t b 21, cE (adrs h0 h1 u v t b) cA sg0 21 d) := by
  have e := Option.some.inj (ly_21.symm.trans h)
  subst e
  rfl
theorem wf_22 (h : lay[22]? = some d) : (nwX cA h0 u ++ nwM cA h1 v)[22]? = some (adrs h0 h1 u v t b 22, cE (adrs h0 h1 u v t b) cA sg0 22 d) := by
  have e := Option.some.inj (ly_22.symm.trans h)
  subst e
  rfl
theorem wf_23 (h : lay[23]? = some d) : (nwX cA h0 u ++ nwM cA h1 v)[23]? = some (adrs h0 h1 u v t b 23, cE (adrs h0 h1 u v t b) cA sg0 23 d) := by
  have e := Option.some.inj (ly_23.symm.trans h)
  subst e
  rfl
theorem wf_24 (h : lay[24]? = some d) : (nwX cA h0 u ++ nwM cA h1 v)[24]? = some (adrs h0 h1 u v t b 24, cE (adrs h0 h1 u v t b) cA sg0 24 d) := by
  have e := Option.some.inj (ly_24.symm.trans h)
  subst e
  rfl
theorem wf_25 (h : lay[25]? = some d) : (nwX cA h0 u ++ nwM cA h1 v)[25]? = some (adrs h0 h1 u v t b 25, cE (adrs h0 h1 u v t b) cA sg0 25 d) := by
  have e := Option.some.inj (ly_25.symm.trans h)
  subst e
  rfl
theorem wf_26 (h : lay[26]? = some d) : (nwX cA h0 u ++ nwM cA h1 v)[26]? = some (adrs h0 h1 u v t b 26, cE (adrs h0 h1 u v t b) cA sg0 26 d) := by
  have e := Option.some.inj (ly_26.symm.trans h)
  subst e
  rfl
theorem wf_27 (h : lay[27]? = some d) : (nwX cA h0 u ++ nwM cA h1 v)[27]? = some (adrs h0 h1 u v t b 27, cE (adrs h0 h1 u v t b) cA sg0 27 d) := by
  have e := Option.some.inj (ly_27.symm.trans h)
  subst e
  rfl
theorem wf_28 (h : lay[28]? = some d) : (nwX cA h0 u ++ nwM cA h1 v)[28]? = some (adrs h0 h1 u v t b 28, cE (adrs h0 h1 u v t b) cA sg0 28 d) := by
  have e := Option.some.inj (ly_28.symm.trans h)
  subst e
  rfl
theorem wf_29 (h : lay[29]? = some d) : (nwX cA h0 u ++ nwM cA h1 v)[29]? = some (adrs h0 h1 u v t b 29, cE (adrs h0 h1 u v t b) cA sg0 29 d) := by
  have e := Option.some.inj (ly_29.symm.trans h)
  subst e
  rfl
theorem wf_30 (h : lay[30]? = some d) : (nwX cA h0 u ++ nwM cA h1 v)[30]? = some (adrs h0 h1 u v t b 30, cE (adrs h0 h1 u v t b) cA sg0 30 d) := by
  have e := Option.some.inj (ly_30.symm.trans h)
  subst e
  rfl
theorem wf_31 (h : lay[31]? = some d) : (nwX cA h0 u ++ nwM cA h1 v)[31]? = some (adrs h0 h1 u v t b 31, cE (adrs h0 h1 u v t b) cA sg0 31 d) := by
  have e := Option.some.inj (ly_31.symm.trans h)
  subst e
  rfl
theorem wf_32 (h : lay[32]? = some d) : (nwX cA h0 u ++ nwM cA h1 v)[32]? = some (adrs h0 h1 u v t b 32, cE (adrs h0 h1 u v t b) cA sg0 32 d) := by
  have e := Option.some.inj (ly_32.symm.trans h)
  subst e
  rfl
theorem wf_33 (h : lay[33]? = some d) : (nwX cA h0 u ++ nwM cA h1 v)[33]? = some (adrs h0 h1 u v t b 33, cE (adrs h0 h1 u v t b) cA sg0 33 d) := by
  have e := Option.some.inj (ly_33.symm.trans h)
  subst e
  rfl
theorem wf_34 (h : lay[34]? = some d) : (nwX cA h0 u ++ nwM cA h1 v)[34]? = some (adrs h0 h1 u v t b 34, cE (adrs h0 h1 u v t b) cA sg0 34 d) := by
  have e := Option.some.inj (ly_34.symm.trans h)
  subst e
  rfl
theorem wf_35 (h : lay[35]? = some d) : (nwX cA h0 u ++ nwM cA h1 v)[35]? = some (adrs h0 h1 u v t b 35, cE (adrs h0 h1 u v t b) cA sg0 35 d) := by
  have e := Option.some.inj (ly_35.symm.trans h)
  subst e
  rfl
theorem wf_36 (h : lay[36]? = some d) : (nwX cA h0 u ++ nwM cA h1 v)[36]? = some (adrs h0 h1 u v t b 36, cE (adrs h0 h1 u v t b) cA sg0 36 d) := by
  have e := Option.some.inj (ly_36.symm.trans h)
  subst e
  rfl
theorem wf_37 (h : lay[37]? = some d) : (nwX cA h0 u ++ nwM cA h1 v)[37]? = some (adrs h0 h1 u v t b 37, cE (adrs h0 h1 u v t b) cA sg0 37 d) := by
  have e := Option.some.inj (ly_37.symm.trans h)
  subst e
  rfl
theorem wf_38 (h : lay[38]? = some d) : (nwX cA h0 u ++ nwM cA h1 v)[38]? = some (adrs h0 h1 u v t b 38, cE (adrs h0 h1 u v t b) cA sg0 38 d) := by
  have e := Option.some.inj (ly_38.symm.trans h)
  subst e
  rfl
theorem wf_39 (h : lay[39]? = some d) : (nwX cA h0 u ++ nwM cA h1 v)[39]? = some (adrs h0 h1 u v t b 39, cE (adrs h0 h1 u v t b) cA sg0 39 d) := by
  have e := Option.some.inj (ly_39.symm.trans h)
  subst e
  rfl
theorem wf_40 (h : lay[40]? = some d) : (nwX cA h0 u ++ nwM cA h1 v)[40]? = some (adrs h0 h1 u v t b 40, cE (adrs h0 h1 u v t b) cA sg0 40 d) := by
  have e := Option.some.inj (ly_40.symm.trans h)
  subst e
  rfl
theorem wf_41 (h : lay[41]? = some d) : (nwX cA h0 u ++ nwM cA h1 v)[41]? = some (adrs h0 h1 u v t b 41, cE (adrs h0 h1 u v t b) cA sg0 41 d) := by
  have e := Option.some.inj (ly_41.symm.trans h)
  subst e
  rfl
theorem wf_42 (h : lay[42]? = some d) : (nwX cA h0 u ++ nwM cA h1 v)[42]? = some (adrs h0 h1 u v t b 42, cE (adrs h0 h1 u v t b) cA sg0 42 d) := by
  have e := Option.some.inj (ly_42.symm.trans h)
  subst e
  rfl
theorem wf_43 (h : lay[43]? = some d) : (nwX cA h0 u ++ nwM cA h1 v)[43]? = some (adrs h0 h1 u v t b 43, cE (adrs h0 h1 u v t b) cA sg0 43 d) := by
  have e := Option.some.inj (ly_43.symm.trans h)
  subst e
  rfl
theorem wf_44 (h : lay[44]? = some d) : (nwX cA h0 u ++ nwM cA h1 v)[44]? = some (adrs h0 h1 u v t b 44, cE (adrs h0 h1 u v t b) cA sg0 44 d) := by
  have e := Option.some.inj (ly_44.symm.trans h)
  subst e
  rfl
theorem wf_45 (h : lay[45]? = some d) : (nwX cA h0 u ++ nwM cA h1 v)[45]? = some (adrs h0 h1 u v t b 45, cE (adrs h0 h1 u v t b) cA sg0 45 d) := by
  have e := Option.some.inj (ly_45.symm.trans h)
  subst e
  rfl
theorem wf_46 (h : lay[46]? = some d) : (nwX cA h0 u ++ nwM cA h1 v)[46]? = some (adrs h0 h1 u v t b 46, cE (adrs h0 h1 u v t b) cA sg0 46 d) := by
  have e := Option.some.inj (ly_46.symm.trans h)
  subst e
  rfl
theorem wf_47 (h : lay[47]? = some d) : (nwX cA h0 u ++ nwM cA h1 v)[47]? = some (adrs h0 h1 u v t b 47, cE (adrs h0 h1 u v t b) cA sg0 47 d) := by
  have e := Option.some.inj (ly_47.symm.trans h)
  subst e
  rfl
theorem wf_48 (h : lay[48]? = some d) : (nwX cA h0 u ++ nwM cA h1 v)[48]? = some (adrs h0 h1 u v t b 48, cE (adrs h0 h1 u v t b) cA sg0 48 d) := by
  have e := Option.some.inj (ly_48.symm.trans h)
  subst e
  rfl
theorem wf_49 (h : lay[49]? = some d) : (nwX cA h0 u ++ nwM cA h1 v)[49]? = some (adrs h0 h1 u v t b 49, cE (adrs h0 h1 u v t b) cA sg0 49 d) := by
  have e := Option.some.inj (ly_49.symm.trans h)
  subst e
  rfl
theorem wf_50 (h : lay[50]? = some d) : (nwX cA h0 u ++ nwM cA h1 v)[50]? = some (adrs h0 h1 u v t b 50, cE (adrs h0 h1 u v t b) cA sg0 50 d) := by
  have e := Option.some.inj (ly_50.symm.trans h)
  subst e
  rfl
theorem wf_51 (h : lay[51]? = some d) : (nwX cA h0 u ++ nwM cA h1 v)[51]? = some (adrs h0 h1 u v t b 51, cE (adrs h0 h1 u v t b) cA sg0 51 d) := by
  have e := Option.some.inj (ly_51.symm.trans h)
  subst e
  rfl
theorem wf_52 (h : lay[52]? = some d) : (nwX cA h0 u ++ nwM cA h1 v)[52]? = some (adrs h0 h1 u v t b 52, cE (adrs h0 h1 u v t b) cA sg0 52 d) := by
  have e := Option.some.inj (ly_52.symm.trans h)
  subst e
  rfl
theorem wf_53 (h : lay[53]? = some d) : (nwX cA h0 u ++ nwM cA h1 v)[53]? = some (adrs h0 h1 u v t b 53, cE (adrs h0 h1 u v t b) cA sg0 53 d) := by
  have e := Option.some.inj (ly_53.symm.trans h)
  subst e
  rfl
theorem wf_54 (h : lay[54]? = some d) : (nwX cA h0 u ++ nwM cA h1 v)[54]? = some (adrs h0 h1 u v t b 54, cE (adrs h0 h1 u v t b) cA sg0 54 d) := by
  have e := Option.some.inj (ly_54.symm.trans h)
  subst e
  rfl
theorem wf_55 (h : lay[55]? = some d) : (nwX cA h0 u ++ nwM cA h1 v)[55]? = some (adrs h0 h1 u v t b 55, cE (adrs h0 h1 u v t b) cA sg0 55 d) := by
  have e := Option.some.inj (ly_55.symm.trans h)
  subst e
  rfl
theorem wf_56 (h : lay[56]? = some d) : (nwX cA h0 u ++ nwM cA h1 v)[56]? = some (adrs h0 h1 u v t b 56, cE (adrs h0 h1 u v t b) cA sg0 56 d) := by
  have e := Option.some.inj (ly_56.symm.trans h)
  subst e
  rfl
theorem wf_57 (h : lay[57]? = some d) : (nwX cA h0 u ++ nwM cA h1 v)[57]? = some (adrs h0 h1 u v t b 57, cE (adrs h0 h1 u v t b) cA sg0 57 d) := by
  have e := Option.some.inj (ly_57.symm.trans h)
  subst e
  rfl
theorem wf_58 (h : lay[58]? = some d) : (nwX cA h0 u ++ nwM cA h1 v)[58]? = some (adrs h0 h1 u v t b 58, cE (adrs h0 h1 u v t b) cA sg0 58 d) := by
  have e := Option.some.inj (ly_58.symm.trans h)
  subst e
  rfl
theorem wf_59 (h : lay[59]? = some d) : (nwX cA h0 u ++ nwM cA h1 v)[59]? = some (adrs h0 h1 u v t b 59, cE (adrs h0 h1 u v t b) cA sg0 59 d) := by
  have e := Option.some.inj (ly_59.symm.trans h)
  subst e
  rfl
theorem wf_60 (h : lay[60]? = some d) : (nwX cA h0 u ++ nwM cA h1 v)[60]? = some (adrs h0 h1 u v t b 60, cE (adrs h0 h1 u v t b) cA sg0 60 d) := by
  have e := Option.some.inj (ly_60.symm.trans h)
  subst e
  rfl
theorem wf_61 (h : lay[61]? = some d) : (nwX cA h0 u ++ nwM cA h1 v)[61]? = some (adrs h0 h1 u v t b 61, cE (adrs h0 h1 u v t b) cA sg0 61 d) := by
  have e := Option.some.inj (ly_61.symm.trans h)
  subst e
  rfl
theorem wf_62 (h : lay[62]? = some d) : (nwX cA h0 u ++ nwM cA h1 v)[62]? = some (adrs h0 h1 u v t b 62, cE (adrs h0 h1 u v t b) cA sg0 62 d) := by
  have e := Option.some.inj (ly_62.symm.trans h)
  subst e
  rfl
theorem wf_63 (h : lay[63]? = some d) : (nwX cA h0 u ++ nwM cA h1 v)[63]? = some (adrs h0 h1 u v t b 63, cE (adrs h0 h1 u v t b) cA sg0 63 d) := by
  have e := Option.some.inj (ly_63.symm.trans h)
  subst e
  rfl
theorem wf_64 (h : lay[64]? = some d) : (nwX cA h0 u ++ nwM cA h1 v)[64]? = some (adrs h0 h1 u v t b 64, cE (adrs h0 h1 u v t b) cA sg0 64 d) := by
  have e := Option.some.inj (ly_64.symm.trans h)
  subst e
  rfl
theorem wf_65 (h : lay[65]? = some d) : (nwX cA h0 u ++ nwM cA h1 v)[65]? = some (adrs h0 h1 u v t b 65, cE (adrs h0 h1 u v t b) cA sg0 65 d) := by
  have e := Option.some.inj (ly_65.symm.trans h)
  subst e
  rfl
theorem wf_66 (h : lay[66]? = some d) : (nwX cA h0 u ++ nwM cA h1 v)[66]? = some (adrs h0 h1 u v t b 66, cE (adrs h0 h1 u v t b) cA sg0 66 d) := by
  have e := Option.some.inj (ly_66.symm.trans h)
  subst e
  rfl
theorem wf_67 (h : lay[67]? = some d) : (nwX cA h0 u ++ nwM cA h1 v)[67]? = some (adrs h0 h1 u v t b 67, cE (adrs h0 h1 u v t b) cA sg0 67 d) := by
  have e := Option.some.inj (ly_67.symm.trans h)
  subst e
  rfl
theorem wf_68 (h : lay[68]? = some d) : (nwX cA h0 u ++ nwM cA h1 v)[68]? = some (adrs h0 h1 u v t b 68, cE (adrs h0 h1 u v t b) cA sg0 68 d) := by
  have e := Option.some.inj (ly_68.symm.trans h)
  subst e
  rfl
theorem wf_69 (h : lay[69]? = some d) : (nwX cA h0 u ++ nwM cA h1 v)[69]? = some (adrs h0 h1 u v t b 69, cE (adrs h0 h1 u v t b) cA sg0 69 d) := by
  have e := Option.some.inj (ly_69.symm.trans h)
  subst e
  show _ = some (adrs h0 h1 u v t b 69, (.inr (7, ([(0, 0), (5, 70), (5, 71), (5, 72), (5, 73), (5, 74), (5, 75), (5, 76), (5, 77), (5, 78), (5, 79), (0, 0), (0, 0), (0, 0), (0, 0), (0, 0), (0, 0), (5, 80), (5, 81), (5, 82), (5, 83), (5, 84), (5, 85), (5, 86), (5, 87), (5, 88), (5, 89), (5, 90), (5, 91), (5, 92), (5, 93), (5, 94), (5, 95), (5, 96), (5, 97), (5, 98), (5, 99), (0, 0), (5, 100), (5, 101), (5, 102), (0, 0), (5, 103), (5, 104), (0, 0), (4, 0), (5, 105), (5, 106), (5, 107), (5, 108), (5, 109), (5, 110), (5, 111), (5, 112), (5, 113), (5, 114), (5, 115), (5, 116), (0, 0), (4, 0), (2, 0)] : List (Nat × Nat)).mapIdx (fun k fd => fv (adrs h0 h1 u v t b) sg0 69 k fd)) : va_E))
  rw [wf_69f]
  rfl
theorem wf_70 (h : lay[70]? = some d) : (nwX cA h0 u ++ nwM cA h1 v)[70]? = some (adrs h0 h1 u v t b 70, cE (adrs h0 h1 u v t b) cA sg0 70 d) := by
  have e := Option.some.inj (ly_70.symm.trans h)
  subst e
  rfl
theorem wf_71 (h : lay[71]? = some d) : (nwX cA h0 u ++ nwM cA h1 v)[71]? = some (adrs h0 h1 u v t b 71, cE (adrs h0 h1 u v t b) cA sg0 71 d) := by
  have e := Option.some.inj (ly_71.symm.trans h)
  subst e
  rfl
theorem wf_72 (h : lay[72]? = some d) : (nwX cA h0 u ++ nwM cA h1 v)[72]? = some (adrs h0 h1 u v t b 72, cE (adrs h0 h1 u v t b) cA sg0 72 d) := by
  have e := Option.some.inj (ly_72.symm.trans h)
  subst e
  rfl
theorem wf_73 (h : lay[73]? = some d) : (nwX cA h0 u ++ nwM cA h1 v)[73]? = some (adrs h0 h1 u v t b 73, cE (adrs h0 h1 u v t b) cA sg0 73 d) := by
  have e := Option.some.inj (ly_73.symm.trans h)
  subst e
  rfl
theorem wf_74 (h : lay[74]? = some d) : (nwX cA h0 u ++ nwM cA h1 v)[74]? = some (adrs h0 h1 u v t b 74, cE (adrs h0 h1 u v t b) cA sg0 74 d) := by
  have e := Option.some.inj (ly_74.symm.trans h)
  subst e
  rfl
theorem wf_75 (h : lay[75]? = some d) : (nwX cA h0 u ++ nwM cA h1 v)[75]? = some (adrs h0 h1 u v t b 75, cE (adrs h0 h1 u v t b) cA sg0 75 d) := by
  have e := Option.some.inj (ly_75.symm.trans h)
  subst e
  rfl
theorem wf_76 (h : lay[76]? = some d) : (nwX cA h0 u ++ nwM cA h1 v)[76]? = some (adrs h0 h1 u v t b 76, cE (adrs h0 h1 u v t b) cA sg0 76 d) := by
  have e := Option.some.inj (ly_76.symm.trans h)
  subst e
  rfl
theorem wf_77 (h : lay[77]? = some d) : (nwX cA h0 u ++ nwM cA h1 v)[77]? = some (adrs h0 h1 u v t b 77, cE (adrs h0 h1 u v t b) cA sg0 77 d) := by
  have e := Option.some.inj (ly_77.symm.trans h)
  subst e
  rfl
theorem wf_78 (h : lay[78]? = some d) : (nwX cA h0 u ++ nwM cA h1 v)[78]? = some (adrs h0 h1 u v t b 78, cE (adrs h0 h1 u v t b) cA sg0 78 d) := by
  have e := Option.some.inj (ly_78.symm.trans h)
  subst e
  rfl
theorem wf_79 (h : lay[79]? = some d) : (nwX cA h0 u ++ nwM cA h1 v)[79]? = some (adrs h0 h1 u v t b 79, cE (adrs h0 h1 u v t b) cA sg0 79 d) := by
  have e := Option.some.inj (ly_79.symm.trans h)
  subst e
  rfl
theorem wf_80 (h : lay[80]? = some d) : (nwX cA h0 u ++ nwM cA h1 v)[80]? = some (adrs h0 h1 u v t b 80, cE (adrs h0 h1 u v t b) cA sg0 80 d) := by
  have e := Option.some.inj (ly_80.symm.trans h)
  subst e
  rfl
theorem wf_81 (h : lay[81]? = some d) : (nwX cA h0 u ++ nwM cA h1 v)[81]? = some (adrs h0 h1 u v t b 81, cE (adrs h0 h1 u v t b) cA sg0 81 d) := by
  have e := Option.some.inj (ly_81.symm.trans h)
  subst e
  rfl
theorem wf_82 (h : lay[82]? = some d) : (nwX cA h0 u ++ nwM cA h1 v)[82]? = some (adrs h0 h1 u v t b 82, cE (adrs h0 h1 u v t b) cA sg0 82 d) := by
  have e := Option.some.inj (ly_82.symm.trans h)
  subst e
  rfl
theorem wf_83 (h : lay[83]? = some d) : (nwX cA h0 u ++ nwM cA h1 v)[83]? = some (adrs h0 h1 u v t b 83, cE (adrs h0 h1 u v t b) cA sg0 83 d) := by
  have e := Option.some.inj (ly_83.symm.trans h)
  subst e
  rfl
theorem wf_84 (h : lay[84]? = some d) : (nwX cA h0 u ++ nwM cA h1 v)[84]? = some (adrs h0 h1 u v t b 84, cE (adrs h0 h1 u v t b) cA sg0 84 d) := by
  have e := Option.some.inj (ly_84.symm.trans h)
  subst e
  rfl
theorem wf_85 (h : lay[85]? = some d) : (nwX cA h0 u ++ nwM cA h1 v)[85]? = some (adrs h0 h1 u v t b 85, cE (adrs h0 h1 u v t b) cA sg0 85 d) := by
  have e := Option.some.inj (ly_85.symm.trans h)
  subst e
  rfl
theorem wf_86 (h : lay[86]? = some d) : (nwX cA h0 u ++ nwM cA h1 v)[86]? = some (adrs h0 h1 u v t b 86, cE (adrs h0 h1 u v t b) cA sg0 86 d) := by
  have e := Option.some.inj (ly_86.symm.trans h)
  subst e
  rfl
theorem wf_87 (h : lay[87]? = some d) : (nwX cA h0 u ++ nwM cA h1 v)[87]? = some (adrs h0 h1 u v t b 87, cE (adrs h0 h1 u v t b) cA sg0 87 d) := by
  have e := Option.some.inj (ly_87.symm.trans h)
  subst e
  rfl
theorem wf_88 (h : lay[88]? = some d) : (nwX cA h0 u ++ nwM cA h1 v)[88]? = some (adrs h0 h1 u v t b 88, cE (adrs h0 h1 u v t b) cA sg0 88 d) := by
  have e := Option.some.inj (ly_88.symm.trans h)
  subst e
  rfl
theorem wf_89 (h : lay[89]? = some d) : (nwX cA h0 u ++ nwM cA h1 v)[89]? = some (adrs h0 h1 u v t b 89, cE (adrs h0 h1 u v t b) cA sg0 89 d) := by
  have e := Option.some.inj (ly_89.symm.trans h)
  subst e
  rfl
theorem wf_90 (h : lay[90]? = some d) : (nwX cA h0 u ++ nwM cA h1 v)[90]? = some (adrs h0 h1 u v t b 90, cE (adrs h0 h1 u v t b) cA sg0 90 d) := by
  have e := Option.some.inj (ly_90.symm.trans h)
  subst e
  rfl
theorem wf_91 (h : lay[91]? = some d) : (nwX cA h0 u ++ nwM cA h1 v)[91]? = some (adrs h0 h1 u v t b 91, cE (adrs h0 h1 u v t b) cA sg0 91 d) := by
  have e := Option.some.inj (ly_91.symm.trans h)
  subst e
  rfl
theorem wf_92 (h : lay[92]? = some d) : (nwX cA h0 u ++ nwM cA h1 v)[92]? = some (adrs h0 h1 u v t b 92, cE (adrs h0 h1 u v t b) cA sg0 92 d) := by
  have e := Option.some.inj (ly_92.symm.trans h)
  subst e
  rfl
theorem wf_93 (h : lay[93]? = some d) : (nwX cA h0 u ++ nwM cA h1 v)[93]? = some (adrs h0 h1 u v t b 93, cE (adrs h0 h1 u v t b) cA sg0 93 d) := by
  have e := Option.some.inj (ly_93.symm.trans h)
  subst e
  rfl
theorem wf_94 (h : lay[94]? = some d) : (nwX cA h0 u ++ nwM cA h1 v)[94]? = some (adrs h0 h1 u v t b 94, cE (adrs h0 h1 u v t b) cA sg0 94 d) := by
  have e := Option.some.inj (ly_94.symm.trans h)
  subst e
  rfl
theorem wf_95 (h : lay[95]? = some d) : (nwX cA h0 u ++ nwM cA h1 v)[95]? = some (adrs h0 h1 u v t b 95, cE (adrs h0 h1 u v t b) cA sg0 95 d) := by
  have e := Option.some.inj (ly_95.symm.trans h)
  subst e
  rfl
theorem wf_96 (h : lay[96]? = some d) : (nwX cA h0 u ++ nwM cA h1 v)[96]? = some (adrs h0 h1 u v t b 96, cE (adrs h0 h1 u v t b) cA sg0 96 d) := by
  have e := Option.some.inj (ly_96.symm.trans h)
  subst e
  rfl
theorem wf_97 (h : lay[97]? = some d) : (nwX cA h0 u ++ nwM cA h1 v)[97]? = some (adrs h0 h1 u v t b 97, cE (adrs h0 h1 u v t b) cA sg0 97 d) := by
  have e := Option.some.inj (ly_97.symm.trans h)
  subst e
  rfl
theorem wf_98 (h : lay[98]? = some d) : (nwX cA h0 u ++ nwM cA h1 v)[98]? = some (adrs h0 h1 u v t b 98, cE (adrs h0 h1 u v t b) cA sg0 98 d) := by
  have e := Option.some.inj (ly_98.symm.trans h)
  subst e
  rfl
theorem wf_99 (h : lay[99]? = some d) : (nwX cA h0 u ++ nwM cA h1 v)[99]? = some (adrs h0 h1 u v t b 99, cE (adrs h0 h1 u v t b) cA sg0 99 d) := by
  have e := Option.some.inj (ly_99.symm.trans h)
  subst e
  rfl
theorem wf_100 (h : lay[100]? = some d) : (nwX cA h0 u ++ nwM cA h1 v)[100]? = some (adrs h0 h1 u v t b 100, cE (adrs h0 h1 u v t b) cA sg0 100 d) := by
  have e := Option.some.inj (ly_100.symm.trans h)
  subst e
  rfl
theorem wf_101 (h : lay[101]? = some d) : (nwX cA h0 u ++ nwM cA h1 v)[101]? = some (adrs h0 h1 u v t b 101, cE (adrs h0 h1 u v t b) cA sg0 101 d) := by
  have e := Option.some.inj (ly_101.symm.trans h)
  subst e
  rfl
theorem wf_102 (h : lay[102]? = some d) : (nwX cA h0 u ++ nwM cA h1 v)[102]? = some (adrs h0 h1 u v t b 102, cE (adrs h0 h1 u v t b) cA sg0 102 d) := by
  have e := Option.some.inj (ly_102.symm.trans h)
  subst e
  rfl
theorem wf_103 (h : lay[103]? = some d) : (nwX cA h0 u ++ nwM cA h1 v)[103]? = some (adrs h0 h1 u v t b 103, cE (adrs h0 h1 u v t b) cA sg0 103 d) := by
  have e := Option.some.inj (ly_103.symm.trans h)
  subst e
  rfl
theorem wf_104 (h : lay[104]? = some d) : (nwX cA h0 u ++ nwM cA h1 v)[104]? = some (adrs h0 h1 u v t b 104, cE (adrs h0 h1 u v t b) cA sg0 104 d) := by
  have e := Option.some.inj (ly_104.symm.trans h)
  subst e
  rfl
theorem wf_105 (h : lay[105]? = some d) : (nwX cA h0 u ++ nwM cA h1 v)[105]? = some (adrs h0 h1 u v t b 105, cE (adrs h0 h1 u v t b) cA sg0 105 d) := by
  have e := Option.some.inj (ly_105.symm.trans h)
  subst e
  rfl
theorem wf_106 (h : lay[106]? = some d) : (nwX cA h0 u ++ nwM cA h1 v)[106]? = some (adrs h0 h1 u v t b 106, cE (adrs h0 h1 u v t b) cA sg0 106 d) := by
  have e := Option.some.inj (ly_106.symm.trans h)
  subst e
  rfl
theorem wf_107 (h : lay[107]? = some d) : (nwX cA h0 u ++ nwM cA h1 v)[107]? = some (adrs h0 h1 u v t b 107, cE (adrs h0 h1 u v t b) cA sg0 107 d) := by
  have e := Option.some.inj (ly_107.symm.trans h)
  subst e
  rfl
theorem wf_108 (h : lay[108]? = some d) : (nwX cA h0 u ++ nwM cA h1 v)[108]? = some (adrs h0 h1 u v t b 108, cE (adrs h0 h1 u v t b) cA sg0 108 d) := by
  have e := Option.some.inj (ly_108.symm.trans h)
  subst e
  rfl
theorem wf_109 (h : lay[109]? = some d) : (nwX cA h0 u ++ nwM cA h1 v)[109]? = some (adrs h0 h1 u v t b 109, cE (adrs h0 h1 u v t b) cA sg0 109 d) := by
  have e := Option.some.inj (ly_109.symm.trans h)
  subst e
  rfl
theorem wf_110 (h : lay[110]? = some d) : (nwX cA h0 u ++ nwM cA h1 v)[110]? = some (adrs h0 h1 u v t b 110, cE (adrs h0 h1 u v t b) cA sg0 110 d) := by
  have e := Option.some.inj (ly_110.symm.trans h)
  subst e
  rfl
theorem wf_111 (h : lay[111]? = some d) : (nwX cA h0 u ++ nwM cA h1 v)[111]? = some (adrs h0 h1 u v t b 111, cE (adrs h0 h1 u v t b) cA sg0 111 d) := by
  have e := Option.some.inj (ly_111.symm.trans h)
  subst e
  rfl
theorem wf_112 (h : lay[112]? = some d) : (nwX cA h0 u ++ nwM cA h1 v)[112]? = some (adrs h0 h1 u v t b 112, cE (adrs h0 h1 u v t b) cA sg0 112 d) := by
  have e := Option.some.inj (ly_112.symm.trans h)
  subst e
  rfl
theorem wf_113 (h : lay[113]? = some d) : (nwX cA h0 u ++ nwM cA h1 v)[113]? = some (adrs h0 h1 u v t b 113, cE (adrs h0 h1 u v t b) cA sg0 113 d) := by
  have e := Option.some.inj (ly_113.symm.trans h)
  subst e
  rfl
theorem wf_114 (h : lay[114]? = some d) : (nwX cA h0 u ++ nwM cA h1 v)[114]? = some (adrs h0 h1 u v t b 114, cE (adrs h0 h1 u v t b) cA sg0 114 d) := by
  have e := Option.some.inj (ly_114.symm.trans h)
  subst e
  rfl
theorem wf_115 (h : lay[115]? = some d) : (nwX cA h0 u ++ nwM cA h1 v)[115]? = some (adrs h0 h1 u v t b 115, cE (adrs h0 h1 u v t b) cA sg0 115 d) := by
  have e := Option.some.inj (ly_115.symm.trans h)
  subst e
  rfl
theorem wf_116 (h : lay[116]? = some d) : (nwX cA h0 u ++ nwM cA h1 v)[116]? = some (adrs h0 h1 u v t b 116, cE (adrs h0 h1 u v t b) cA sg0 116 d) := by
  have e := Option.some.inj (ly_116.symm.trans h)
  subst e
  rfl
set_option maxRecDepth 20000 in
theorem wf_all : ∀ (k : Nat), lay[k]? = some d → (nwX cA h0 u ++ nwM cA h1 v)[k]? = some (adrs h0 h1 u v t b k, cE (adrs h0 h1 u v t b) cA sg0 k d) := by
  intro k h
  have hk : k < 117 := (List.getElem?_eq_some_iff.mp h).1
  match k, h, hk with
  | 0, h, _ => exact wf_0 h
  | 1, h, _ => exact wf_1 h
  | 2, h, _ => exact wf_2 h
  | 3, h, _ => exact wf_3 h
  | 4, h, _ => exact wf_4 h
  | 5, h, _ => exact wf_5 h
  | 6, h, _ => exact wf_6 h
  | 7, h, _ => exact wf_7 h
  | 8, h, _ => exact wf_8 h
  | 9, h, _ => exact wf_9 h
  | 10, h, _ => exact wf_10 h
  | 11, h, _ => exact wf_11 h
  | 12, h, _ => exact wf_12 h
  | 13, h, _ => exact wf_13 h
  | 14, h, _ => exact wf_14 h
  | 15, h, _ => exact wf_15 h
  | 16, h, _ => exact wf_16 h
  | 17, h, _ => exact wf_17 h
  | 18, h, _ => exact wf_18 h
  | 19, h, _ => exact wf_19 h
  | 20, h, _ => exact wf_20 h
  | 21, h, _ => exact wf_21 h
  | 22, h, _ => exact wf_22 h
  | 23, h, _ => exact wf_23 h
  | 24, h, _ => exact wf_24 h
  | 25, h, _ => exact wf_25 h
  | 26, h, _ => exact wf_26 h
  | 27, h, _ => exact wf_27 h
  | 28, h, _ => exact wf_28 h
  | 29, h, _ => exact wf_29 h
  | 30, h, _ => exact wf_30 h
  | 31, h, _ => exact wf_31 h
  | 32, h, _ => exact wf_32 h
  | 33, h, _ => exact wf_33 h
  | 34, h, _ => exact wf_34 h
  | 35, h, _ => exact wf_35 h
  | 36, h, _ => exact wf_36 h
  | 37, h, _ => exact wf_37 h
  | 38, h, _ => exact wf_38 h
  | 39, h, _ => exact wf_39 h
  | 40, h, _ => exact wf_40 h
  | 41, h, _ => exact wf_41 h
  | 42, h, _ => exact wf_42 h
  | 43, h, _ => exact wf_43 h
  | 44, h, _ => exact wf_44 h
  | 45, h, _ => exact wf_45 h
  | 46, h, _ => exact wf_46 h
  | 47, h, _ => exact wf_47 h
  | 48, h, _ => exact wf_48 h
  | 49, h, _ => exact wf_49 h
  | 50, h, _ => exact wf_50 h
  | 51, h, _ => exact wf_51 h
  | 52, h, _ => exact wf_52 h
  | 53, h, _ => exact wf_53 h
  | 54, h, _ => exact wf_54 h
  | 55, h, _ => exact wf_55 h
  | 56, h, _ => exact wf_56 h
  | 57, h, _ => exact wf_57 h
  | 58, h, _ => exact wf_58 h
  | 59, h, _ => exact wf_59 h
  | 60, h, _ => exact wf_60 h
  | 61, h, _ => exact wf_61 h
  | 62, h, _ => exact wf_62 h
  | 63, h, _ => exact wf_63 h
  | 64, h, _ => exact wf_64 h
  | 65, h, _ => exact wf_65 h
  | 66, h, _ => exact wf_66 h
  | 67, h, _ => exact wf_67 h
  | 68, h, _ => exact wf_68 h
  | 69, h, _ => exact wf_69 h
  | 70, h, _ => exact wf_70 h
  | 71, h, _ => exact wf_71 h
  | 72, h, _ => exact wf_72 h
  | 73, h, _ => exact wf_73 h
  | 74, h, _ => exact wf_74 h
  | 75, h, _ => exact wf_75 h
  | 76, h, _ => exact wf_76 h
  | 77, h, _ => exact wf_77 h
  | 78, h, _ => exact wf_78 h
  | 79, h, _ => exact wf_79 h
  | 80, h, _ => exact wf_80 h
  | 81, h, _ => exact wf_81 h
  | 82, h, _ => exact wf_82 h
  | 83, h, _ => exact wf_83 h
  | 84, h, _ => exact wf_84 h
  | 85, h, _ => exact wf_85 h
  | 86, h, _ => exact wf_86 h
  | 87, h, _ => exact wf_87 h
  | 88, h, _ => exact wf_88 h
  | 89, h, _ => exact wf_89 h
  | 90, h, _ => exact wf_90 h
  | 91, h, _ => exact wf_91 h
  | 92, h, _ => exact wf_92 h
  | 93, h, _ => exact wf_93 h
  | 94, h, _ => exact wf_94 h
  | 95, h, _ => exact wf_95 h
  | 96, h, _ => exact wf_96 h
  | 97, h, _ => exact wf_97 h
  | 98, h, _ => exact wf_98 h
  | 99, h, _ => exact wf_99 h
  | 100, h, _ => exact wf_100 h
  | 101, h, _ => exact wf_101 h
  | 102, h, _ => exact wf_102 h
  | 103, h, _ => exact wf_103 h
  | 104, h, _ => exact wf_104 h
  | 105, h, _ => exact wf_105 h
  | 106, h, _ => exact wf_106 h
  | 107, h, _ => exact wf_107 h
  | 108, h, _ => exact wf_108 h
  | 109, h, _ => exact wf_109 h
  | 110, h, _ => exact wf_110 h
  | 111, h, _ => exact wf_111 h
  | 112, h, _ => exact wf_112 h
  | 113, h, _ => exact wf_113 h
  | 114, h, _ => exact wf_114 h
  | 115, h, _ => exact wf_115 h
  | 116, h, _ => exact wf_116 h
  | k + 117, _, hk => exact absurd hk (by omega)
end FST
