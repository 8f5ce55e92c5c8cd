/-! ===== constructors, walked ===== -/
theorem ok_mX_init : Mok mX_init 0 := ⟨inW1 18 rfl rfl, inW1 1 rfl rfl, ⟨by decide +kernel, by decide +kernel, by decide +kernel⟩, by decide +kernel, rfl⟩
theorem ok_mP_init : Mok mP_init 0 := ⟨inW1 26 rfl rfl, inW1 2 rfl rfl, ⟨by decide +kernel, by decide +kernel, by decide +kernel⟩, by decide +kernel, rfl⟩
theorem ok_mV_init : Mok mV_init 1 := ⟨inW1 108 rfl rfl, inW1 3 rfl rfl, ⟨by decide +kernel, by decide +kernel, by decide +kernel⟩, by decide +kernel, rfl⟩
theorem ok_mL_init : Mok mL_init 0 := ⟨inW1 133 rfl rfl, inW1 4 rfl rfl, ⟨by decide +kernel, by decide +kernel, by decide +kernel⟩, by decide +kernel, rfl⟩
theorem ok_mT_init : Mok mT_init 4 := ⟨inW1 148 rfl rfl, inW1 5 rfl rfl, ⟨by decide +kernel, by decide +kernel, by decide +kernel⟩, by decide +kernel, rfl⟩
theorem ok_mS_init : Mok mS_init 0 := ⟨inW1 205 rfl rfl, inW1 6 rfl rfl, ⟨by decide +kernel, by decide +kernel, by decide +kernel⟩, by decide +kernel, rfl⟩
theorem ok_mR_init : Mok mR_init 2 := ⟨inW1 226 rfl rfl, inW1 7 rfl rfl, ⟨by decide +kernel, by decide +kernel, by decide +kernel⟩, by decide +kernel, rfl⟩
theorem ok_mM_init : Mok mM_init 0 := ⟨inW4 18 rfl rfl, inW1 8 rfl rfl, ⟨by decide +kernel, by decide +kernel, by decide +kernel⟩, by decide +kernel, rfl⟩
def nwL (cA : Nat → ClassId)  (h0 : Nat) (u : Nat → Nat) : va_W := [(h0, .inr (0, [.ref (u 0), .int 0])),
  (u 0, .inl (cA 0, 20, .inl (fil 20)))]
set_option maxRecDepth 20000 in
set_option maxHeartbeats 4000000 in
theorem nL_init (cA : Nat → ClassId) (D : va_G)  (h0 : Nat) : NM cA D mL_init [] (h0, .inr (0, [.null, .int 0])) 1 20 (nwL cA  h0) := by
  refine NJ.met ok_mL_init rfl (Nat.le_of_ble_eq_true rfl) rfl ?_
  refine n_aload_n (p2 := 1) dL_init_0 rfl 0 rfl ?_
  refine n_objInit (p2 := 4) dL_init_1 rfl (inW1 134 rfl rfl) (Nat.le_of_ble_eq_true rfl) (Nat.le_of_ble_eq_true rfl) ?_
  refine n_aload_n (p2 := 5) dL_init_4 rfl 0 rfl ?_
  refine n_bipush (v := 20) (p2 := 7) dL_init_5 rfl rfl ?_
  refine n_newa_0 (N := 20) (p2 := 9) dL_init_7 rfl ⟨by decide, rfl, by decide⟩ (Nat.le_of_ble_eq_true rfl) (Nat.le_of_ble_eq_true rfl) (fun q0x7 => ?_)
  refine n_putF (kf := 0) (p2 := 12) dL_init_9 rfl cf_0 (by decide) (inW1 135 rfl rfl) rfl rfl rfl rfl rfl (Nat.le_of_ble_eq_true rfl) ?_
  show NJ cA D mL_init _ _ _ 12 [(0, .ref h0)] [] [(h0, .inr (0, [.ref q0x7, .int 0])), (q0x7, .inl (cA 0, zr 0 20))] 1 20
  refine n_iconst (v := 0) (p2 := 13) dL_init_12 rfl rfl ?_
  refine n_istore_n (lv' := [(1, .int 0), (0, .ref h0)]) (p2 := 14) dL_init_13 rfl (by decide) rfl ?_
  refine n_fill (a := 14) (N := 20) (q := q0x7) (kf := 0) 0 (by decide) (by decide) dL_init_14 dL_init_15 dL_init_17 dL_init_20 dL_init_21 dL_init_24 dL_init_25 dL_init_26 dL_init_27 dL_init_30 rfl cf_0 (by decide) (inW1 135 rfl rfl) rfl rfl ?_
  show NJ cA D mL_init _ _ _ 33 [(1, .int (iw 20)), (0, .ref h0)] [] [(h0, .inr (0, [.ref q0x7, .int 0])), (q0x7, .inl (cA 0, 20, .inl (fil 20)))] 1 20
  exact n_return (fun i => [q0x7].getD i 0) [0, 1] dL_init_33 rfl (by decide) rfl
def nwP (cA : Nat → ClassId)  (h0 : Nat) (u : Nat → Nat) : va_W := [(h0, .inr (2, [.int 0, .int 0, .int 4, .int 1, .ref (u 0), .ref (u 1), .ref (u 2), .ref (u 3), .ref (u 4), .ref (u 5), .ref (u 6), .ref (u 7), .ref (u 8), .ref (u 9), .ref (u 10)])),
  (u 0, .inl (cA 0, zr 0 20)),
  (u 1, .inl (cA 2, zr 2 20)),
  (u 2, .inl (cA 4, zr 4 20)),
  (u 3, .inl (cA 2, zr 2 20)),
  (u 4, .inl (cA 4, zr 4 20)),
  (u 5, .inl (cA 0, zr 0 120)),
  (u 6, .inl (cA 1, zr 1 120)),
  (u 7, .inl (cA 0, zr 0 20)),
  (u 8, .inl (cA 4, zr 4 160)),
  (u 9, .inl (cA 4, zr 4 160)),
  (u 10, .inl (cA 0, zr 0 20))]
set_option maxRecDepth 20000 in
set_option maxHeartbeats 4000000 in
theorem nP_init (cA : Nat → ClassId) (D : va_G)  (h0 : Nat) : NM cA D mP_init [] (h0, .inr (2, [.int 0, .int 0, .int 0, .int 0, .null, .null, .null, .null, .null, .null, .null, .null, .null, .null, .null])) 11 700 (nwP cA  h0) := by
  refine NJ.met ok_mP_init rfl (Nat.le_of_ble_eq_true rfl) rfl ?_
  refine n_aload_n (p2 := 1) dP_init_0 rfl 0 rfl ?_
  refine n_objInit (p2 := 4) dP_init_1 rfl (inW1 27 rfl rfl) (Nat.le_of_ble_eq_true rfl) (Nat.le_of_ble_eq_true rfl) ?_
  refine n_aload_n (p2 := 5) dP_init_4 rfl 0 rfl ?_
  refine n_iconst (v := 0) (p2 := 6) dP_init_5 rfl rfl ?_
  refine n_put (kf := 1) (p2 := 9) dP_init_6 rfl cf_2 (by decide) (inW1 32 rfl rfl) rfl rfl rfl rfl rfl (Nat.le_of_ble_eq_true rfl) ?_
  show NJ cA D mP_init _ _ _ 9 [(0, .ref h0)] [] [(h0, .inr (2, [.int 0, .int 0, .int 0, .int 0, .null, .null, .null, .null, .null, .null, .null, .null, .null, .null, .null]))] 0 0
  refine n_aload_n (p2 := 10) dP_init_9 rfl 0 rfl ?_
  refine n_iconst (v := 4) (p2 := 11) dP_init_10 rfl rfl ?_
  refine n_put (kf := 2) (p2 := 14) dP_init_11 rfl cf_2 (by decide) (inW1 35 rfl rfl) rfl rfl rfl rfl rfl (Nat.le_of_ble_eq_true rfl) ?_
  show NJ cA D mP_init _ _ _ 14 [(0, .ref h0)] [] [(h0, .inr (2, [.int 0, .int 0, .int 4, .int 0, .null, .null, .null, .null, .null, .null, .null, .null, .null, .null, .null]))] 0 0
  refine n_aload_n (p2 := 15) dP_init_14 rfl 0 rfl ?_
  refine n_iconst (v := 1) (p2 := 16) dP_init_15 rfl rfl ?_
  refine n_put (kf := 3) (p2 := 19) dP_init_16 rfl cf_2 (by decide) (inW1 38 rfl rfl) rfl rfl rfl rfl rfl (Nat.le_of_ble_eq_true rfl) ?_
  show NJ cA D mP_init _ _ _ 19 [(0, .ref h0)] [] [(h0, .inr (2, [.int 0, .int 0, .int 4, .int 1, .null, .null, .null, .null, .null, .null, .null, .null, .null, .null, .null]))] 0 0
  refine n_aload_n (p2 := 20) dP_init_19 rfl 0 rfl ?_
  refine n_bipush (v := 20) (p2 := 22) dP_init_20 rfl rfl ?_
  refine n_newa_0 (N := 20) (p2 := 24) dP_init_22 rfl ⟨by decide, rfl, by decide⟩ (Nat.le_of_ble_eq_true rfl) (Nat.le_of_ble_eq_true rfl) (fun q0x22 => ?_)
  refine n_putF (kf := 4) (p2 := 27) dP_init_24 rfl cf_2 (by decide) (inW1 40 rfl rfl) rfl rfl rfl rfl rfl (Nat.le_of_ble_eq_true rfl) ?_
  show NJ cA D mP_init _ _ _ 27 [(0, .ref h0)] [] [(h0, .inr (2, [.int 0, .int 0, .int 4, .int 1, .ref q0x22, .null, .null, .null, .null, .null, .null, .null, .null, .null, .null])), (q0x22, .inl (cA 0, zr 0 20))] 1 20
  refine n_aload_n (p2 := 28) dP_init_27 rfl 0 rfl ?_
  refine n_bipush (v := 20) (p2 := 30) dP_init_28 rfl rfl ?_
  refine n_newa_2 (N := 20) (p2 := 32) dP_init_30 rfl ⟨by decide, rfl, by decide⟩ (Nat.le_of_ble_eq_true rfl) (Nat.le_of_ble_eq_true rfl) (fun q1x30 => ?_)
  refine n_putF (kf := 5) (p2 := 35) dP_init_32 rfl cf_2 (by decide) (inW1 44 rfl rfl) rfl rfl rfl rfl rfl (Nat.le_of_ble_eq_true rfl) ?_
  show NJ cA D mP_init _ _ _ 35 [(0, .ref h0)] [] [(h0, .inr (2, [.int 0, .int 0, .int 4, .int 1, .ref q0x22, .ref q1x30, .null, .null, .null, .null, .null, .null, .null, .null, .null])), (q0x22, .inl (cA 0, zr 0 20)), (q1x30, .inl (cA 2, zr 2 20))] 2 40
  refine n_aload_n (p2 := 36) dP_init_35 rfl 0 rfl ?_
  refine n_bipush (v := 20) (p2 := 38) dP_init_36 rfl rfl ?_
  refine n_newa_4 (N := 20) (p2 := 40) dP_init_38 rfl ⟨by decide, rfl, by decide⟩ (Nat.le_of_ble_eq_true rfl) (Nat.le_of_ble_eq_true rfl) (fun q2x38 => ?_)
  refine n_putF (kf := 6) (p2 := 43) dP_init_40 rfl cf_2 (by decide) (inW1 46 rfl rfl) rfl rfl rfl rfl rfl (Nat.le_of_ble_eq_true rfl) ?_
  show NJ cA D mP_init _ _ _ 43 [(0, .ref h0)] [] [(h0, .inr (2, [.int 0, .int 0, .int 4, .int 1, .ref q0x22, .ref q1x30, .ref q2x38, .null, .null, .null, .null, .null, .null, .null, .null])), (q0x22, .inl (cA 0, zr 0 20)), (q1x30, .inl (cA 2, zr 2 20)), (q2x38, .inl (cA 4, zr 4 20))] 3 60
  refine n_aload_n (p2 := 44) dP_init_43 rfl 0 rfl ?_
  refine n_bipush (v := 20) (p2 := 46) dP_init_44 rfl rfl ?_
  refine n_newa_2 (N := 20) (p2 := 48) dP_init_46 rfl ⟨by decide, rfl, by decide⟩ (Nat.le_of_ble_eq_true rfl) (Nat.le_of_ble_eq_true rfl) (fun q3x46 => ?_)
  refine n_putF (kf := 7) (p2 := 51) dP_init_48 rfl cf_2 (by decide) (inW1 48 rfl rfl) rfl rfl rfl rfl rfl (Nat.le_of_ble_eq_true rfl) ?_
  show NJ cA D mP_init _ _ _ 51 [(0, .ref h0)] [] [(h0, .inr (2, [.int 0, .int 0, .int 4, .int 1, .ref q0x22, .ref q1x30, .ref q2x38, .ref q3x46, .null, .null, .null, .null, .null, .null, .null])), (q0x22, .inl (cA 0, zr 0 20)), (q1x30, .inl (cA 2, zr 2 20)), (q2x38, .inl (cA 4, zr 4 20)), (q3x46, .inl (cA 2, zr 2 20))] 4 80
  refine n_aload_n (p2 := 52) dP_init_51 rfl 0 rfl ?_
  refine n_bipush (v := 20) (p2 := 54) dP_init_52 rfl rfl ?_
  refine n_newa_4 (N := 20) (p2 := 56) dP_init_54 rfl ⟨by decide, rfl, by decide⟩ (Nat.le_of_ble_eq_true rfl) (Nat.le_of_ble_eq_true rfl) (fun q4x54 => ?_)
  refine n_putF (kf := 8) (p2 := 59) dP_init_56 rfl cf_2 (by decide) (inW1 50 rfl rfl) rfl rfl rfl rfl rfl (Nat.le_of_ble_eq_true rfl) ?_
  show NJ cA D mP_init _ _ _ 59 [(0, .ref h0)] [] [(h0, .inr (2, [.int 0, .int 0, .int 4, .int 1, .ref q0x22, .ref q1x30, .ref q2x38, .ref q3x46, .ref q4x54, .null, .null, .null, .null, .null, .null])), (q0x22, .inl (cA 0, zr 0 20)), (q1x30, .inl (cA 2, zr 2 20)), (q2x38, .inl (cA 4, zr 4 20)), (q3x46, .inl (cA 2, zr 2 20)), (q4x54, .inl (cA 4, zr 4 20))] 5 100
  refine n_aload_n (p2 := 60) dP_init_59 rfl 0 rfl ?_
  refine n_bipush (v := 120) (p2 := 62) dP_init_60 rfl rfl ?_
  refine n_newa_0 (N := 120) (p2 := 64) dP_init_62 rfl ⟨by decide, rfl, by decide⟩ (Nat.le_of_ble_eq_true rfl) (Nat.le_of_ble_eq_true rfl) (fun q5x62 => ?_)
  refine n_putF (kf := 9) (p2 := 67) dP_init_64 rfl cf_2 (by decide) (inW1 53 rfl rfl) rfl rfl rfl rfl rfl (Nat.le_of_ble_eq_true rfl) ?_
  show NJ cA D mP_init _ _ _ 67 [(0, .ref h0)] [] [(h0, .inr (2, [.int 0, .int 0, .int 4, .int 1, .ref q0x22, .ref q1x30, .ref q2x38, .ref q3x46, .ref q4x54, .ref q5x62, .null, .null, .null, .null, .null])), (q0x22, .inl (cA 0, zr 0 20)), (q1x30, .inl (cA 2, zr 2 20)), (q2x38, .inl (cA 4, zr 4 20)), (q3x46, .inl (cA 2, zr 2 20)), (q4x54, .inl (cA 4, zr 4 20)), (q5x62, .inl (cA 0, zr 0 120))] 6 220
  refine n_aload_n (p2 := 68) dP_init_67 rfl 0 rfl ?_
  refine n_bipush (v := 120) (p2 := 70) dP_init_68 rfl rfl ?_
  refine n_newa_1 (N := 120) (p2 := 72) dP_init_70 rfl ⟨by decide, rfl, by decide⟩ (Nat.le_of_ble_eq_true rfl) (Nat.le_of_ble_eq_true rfl) (fun q6x70 => ?_)
  refine n_putF (kf := 10) (p2 := 75) dP_init_72 rfl cf_2 (by decide) (inW1 57 rfl rfl) rfl rfl rfl rfl rfl (Nat.le_of_ble_eq_true rfl) ?_
  show NJ cA D mP_init _ _ _ 75 [(0, .ref h0)] [] [(h0, .inr (2, [.int 0, .int 0, .int 4, .int 1, .ref q0x22, .ref q1x30, .ref q2x38, .ref q3x46, .ref q4x54, .ref q5x62, .ref q6x70, .null, .null, .null, .null])), (q0x22, .inl (cA 0, zr 0 20)), (q1x30, .inl (cA 2, zr 2 20)), (q2x38, .inl (cA 4, zr 4 20)), (q3x46, .inl (cA 2, zr 2 20)), (q4x54, .inl (cA 4, zr 4 20)), (q5x62, .inl (cA 0, zr 0 120)), (q6x70, .inl (cA 1, zr 1 120))] 7 340
  refine n_aload_n (p2 := 76) dP_init_75 rfl 0 rfl ?_
  refine n_bipush (v := 20) (p2 := 78) dP_init_76 rfl rfl ?_
  refine n_newa_0 (N := 20) (p2 := 80) dP_init_78 rfl ⟨by decide, rfl, by decide⟩ (Nat.le_of_ble_eq_true rfl) (Nat.le_of_ble_eq_true rfl) (fun q7x78 => ?_)
  refine n_putF (kf := 11) (p2 := 83) dP_init_80 rfl cf_2 (by decide) (inW1 60 rfl rfl) rfl rfl rfl rfl rfl (Nat.le_of_ble_eq_true rfl) ?_
  show NJ cA D mP_init _ _ _ 83 [(0, .ref h0)] [] [(h0, .inr (2, [.int 0, .int 0, .int 4, .int 1, .ref q0x22, .ref q1x30, .ref q2x38, .ref q3x46, .ref q4x54, .ref q5x62, .ref q6x70, .ref q7x78, .null, .null, .null])), (q0x22, .inl (cA 0, zr 0 20)), (q1x30, .inl (cA 2, zr 2 20)), (q2x38, .inl (cA 4, zr 4 20)), (q3x46, .inl (cA 2, zr 2 20)), (q4x54, .inl (cA 4, zr 4 20)), (q5x62, .inl (cA 0, zr 0 120)), (q6x70, .inl (cA 1, zr 1 120)), (q7x78, .inl (cA 0, zr 0 20))] 8 360
  refine n_aload_n (p2 := 84) dP_init_83 rfl 0 rfl ?_
  refine n_sipush (v := 160) (p2 := 87) dP_init_84 rfl rfl ?_
  refine n_newa_4 (N := 160) (p2 := 89) dP_init_87 rfl ⟨by decide, rfl, by decide⟩ (Nat.le_of_ble_eq_true rfl) (Nat.le_of_ble_eq_true rfl) (fun q8x87 => ?_)
  refine n_putF (kf := 12) (p2 := 92) dP_init_89 rfl cf_2 (by decide) (inW1 63 rfl rfl) rfl rfl rfl rfl rfl (Nat.le_of_ble_eq_true rfl) ?_
  show NJ cA D mP_init _ _ _ 92 [(0, .ref h0)] [] [(h0, .inr (2, [.int 0, .int 0, .int 4, .int 1, .ref q0x22, .ref q1x30, .ref q2x38, .ref q3x46, .ref q4x54, .ref q5x62, .ref q6x70, .ref q7x78, .ref q8x87, .null, .null])), (q0x22, .inl (cA 0, zr 0 20)), (q1x30, .inl (cA 2, zr 2 20)), (q2x38, .inl (cA 4, zr 4 20)), (q3x46, .inl (cA 2, zr 2 20)), (q4x54, .inl (cA 4, zr 4 20)), (q5x62, .inl (cA 0, zr 0 120)), (q6x70, .inl (cA 1, zr 1 120)), (q7x78, .inl (cA 0, zr 0 20)), (q8x87, .inl (cA 4, zr 4 160))] 9 520
  refine n_aload_n (p2 := 93) dP_init_92 rfl 0 rfl ?_
  refine n_sipush (v := 160) (p2 := 96) dP_init_93 rfl rfl ?_
  refine n_newa_4 (N := 160) (p2 := 98) dP_init_96 rfl ⟨by decide, rfl, by decide⟩ (Nat.le_of_ble_eq_true rfl) (Nat.le_of_ble_eq_true rfl) (fun q9x96 => ?_)
  refine n_putF (kf := 13) (p2 := 101) dP_init_98 rfl cf_2 (by decide) (inW1 65 rfl rfl) rfl rfl rfl rfl rfl (Nat.le_of_ble_eq_true rfl) ?_
  show NJ cA D mP_init _ _ _ 101 [(0, .ref h0)] [] [(h0, .inr (2, [.int 0, .int 0, .int 4, .int 1, .ref q0x22, .ref q1x30, .ref q2x38, .ref q3x46, .ref q4x54, .ref q5x62, .ref q6x70, .ref q7x78, .ref q8x87, .ref q9x96, .null])), (q0x22, .inl (cA 0, zr 0 20)), (q1x30, .inl (cA 2, zr 2 20)), (q2x38, .inl (cA 4, zr 4 20)), (q3x46, .inl (cA 2, zr 2 20)), (q4x54, .inl (cA 4, zr 4 20)), (q5x62, .inl (cA 0, zr 0 120)), (q6x70, .inl (cA 1, zr 1 120)), (q7x78, .inl (cA 0, zr 0 20)), (q8x87, .inl (cA 4, zr 4 160)), (q9x96, .inl (cA 4, zr 4 160))] 10 680
  refine n_aload_n (p2 := 102) dP_init_101 rfl 0 rfl ?_
  refine n_bipush (v := 20) (p2 := 104) dP_init_102 rfl rfl ?_
  refine n_newa_0 (N := 20) (p2 := 106) dP_init_104 rfl ⟨by decide, rfl, by decide⟩ (Nat.le_of_ble_eq_true rfl) (Nat.le_of_ble_eq_true rfl) (fun q10x104 => ?_)
  refine n_putF (kf := 14) (p2 := 109) dP_init_106 rfl cf_2 (by decide) (inW1 67 rfl rfl) rfl rfl rfl rfl rfl (Nat.le_of_ble_eq_true rfl) ?_
  show NJ cA D mP_init _ _ _ 109 [(0, .ref h0)] [] [(h0, .inr (2, [.int 0, .int 0, .int 4, .int 1, .ref q0x22, .ref q1x30, .ref q2x38, .ref q3x46, .ref q4x54, .ref q5x62, .ref q6x70, .ref q7x78, .ref q8x87, .ref q9x96, .ref q10x104])), (q0x22, .inl (cA 0, zr 0 20)), (q1x30, .inl (cA 2, zr 2 20)), (q2x38, .inl (cA 4, zr 4 20)), (q3x46, .inl (cA 2, zr 2 20)), (q4x54, .inl (cA 4, zr 4 20)), (q5x62, .inl (cA 0, zr 0 120)), (q6x70, .inl (cA 1, zr 1 120)), (q7x78, .inl (cA 0, zr 0 20)), (q8x87, .inl (cA 4, zr 4 160)), (q9x96, .inl (cA 4, zr 4 160)), (q10x104, .inl (cA 0, zr 0 20))] 11 700
  exact n_return (fun i => [q0x22, q1x30, q2x38, q3x46, q4x54, q5x62, q6x70, q7x78, q8x87, q9x96, q10x104].getD i 0) [0, 1, 2, 3, 4, 5, 6, 7, 8, 9, 10, 11] dP_init_109 rfl (by decide) rfl
def nwV (cA : Nat → ClassId) (a1 : Nat) (h0 : Nat) (u : Nat → Nat) : va_W := [(h0, .inr (1, [.ref a1, .ref (u 0), .ref (u 1), .int 0, .ref (u 2)])),
  (u 0, .inl (cA 0, zr 0 20)),
  (u 1, .inl (cA 0, zr 0 20)),
  (u 2, .inl (cA 0, zr 0 20))]
set_option maxRecDepth 20000 in
set_option maxHeartbeats 4000000 in
theorem nV_init (cA : Nat → ClassId) (D : va_G) (a1 : Nat) (h0 : Nat) : NM cA D mV_init [.ref a1] (h0, .inr (1, [.null, .null, .null, .int 0, .null])) 3 60 (nwV cA a1 h0) := by
  refine NJ.met ok_mV_init rfl (Nat.le_of_ble_eq_true rfl) rfl ?_
  refine n_aload_n (p2 := 1) dV_init_0 rfl 0 rfl ?_
  refine n_objInit (p2 := 4) dV_init_1 rfl (inW1 109 rfl rfl) (Nat.le_of_ble_eq_true rfl) (Nat.le_of_ble_eq_true rfl) ?_
  refine n_aload_n (p2 := 5) dV_init_4 rfl 0 rfl ?_
  refine n_bipush (v := 20) (p2 := 7) dV_init_5 rfl rfl ?_
  refine n_newa_0 (N := 20) (p2 := 9) dV_init_7 rfl ⟨by decide, rfl, by decide⟩ (Nat.le_of_ble_eq_true rfl) (Nat.le_of_ble_eq_true rfl) (fun q0x7 => ?_)
  refine n_putF (kf := 1) (p2 := 12) dV_init_9 rfl cf_1 (by decide) (inW1 111 rfl rfl) rfl rfl rfl rfl rfl (Nat.le_of_ble_eq_true rfl) ?_
  show NJ cA D mV_init _ _ _ 12 [(0, .ref h0), (1, .ref a1)] [] [(h0, .inr (1, [.null, .ref q0x7, .null, .int 0, .null])), (q0x7, .inl (cA 0, zr 0 20))] 1 20
  refine n_aload_n (p2 := 13) dV_init_12 rfl 0 rfl ?_
  refine n_bipush (v := 20) (p2 := 15) dV_init_13 rfl rfl ?_
  refine n_newa_0 (N := 20) (p2 := 17) dV_init_15 rfl ⟨by decide, rfl, by decide⟩ (Nat.le_of_ble_eq_true rfl) (Nat.le_of_ble_eq_true rfl) (fun q1x15 => ?_)
  refine n_putF (kf := 2) (p2 := 20) dV_init_17 rfl cf_1 (by decide) (inW1 113 rfl rfl) rfl rfl rfl rfl rfl (Nat.le_of_ble_eq_true rfl) ?_
  show NJ cA D mV_init _ _ _ 20 [(0, .ref h0), (1, .ref a1)] [] [(h0, .inr (1, [.null, .ref q0x7, .ref q1x15, .int 0, .null])), (q0x7, .inl (cA 0, zr 0 20)), (q1x15, .inl (cA 0, zr 0 20))] 2 40
  refine n_aload_n (p2 := 21) dV_init_20 rfl 0 rfl ?_
  refine n_bipush (v := 20) (p2 := 23) dV_init_21 rfl rfl ?_
  refine n_newa_0 (N := 20) (p2 := 25) dV_init_23 rfl ⟨by decide, rfl, by decide⟩ (Nat.le_of_ble_eq_true rfl) (Nat.le_of_ble_eq_true rfl) (fun q2x23 => ?_)
  refine n_putF (kf := 4) (p2 := 28) dV_init_25 rfl cf_1 (by decide) (inW1 117 rfl rfl) rfl rfl rfl rfl rfl (Nat.le_of_ble_eq_true rfl) ?_
  show NJ cA D mV_init _ _ _ 28 [(0, .ref h0), (1, .ref a1)] [] [(h0, .inr (1, [.null, .ref q0x7, .ref q1x15, .int 0, .ref q2x23])), (q0x7, .inl (cA 0, zr 0 20)), (q1x15, .inl (cA 0, zr 0 20)), (q2x23, .inl (cA 0, zr 0 20))] 3 60
  refine n_aload_n (p2 := 29) dV_init_28 rfl 0 rfl ?_
  refine n_aload_n (p2 := 30) dV_init_29 rfl 1 rfl ?_
  refine n_putF (kf := 0) (p2 := 33) dV_init_30 rfl cf_1 (by decide) (inW1 110 rfl rfl) rfl rfl rfl rfl rfl (Nat.le_of_ble_eq_true rfl) ?_
  show NJ cA D mV_init _ _ _ 33 [(0, .ref h0), (1, .ref a1)] [] [(h0, .inr (1, [.ref a1, .ref q0x7, .ref q1x15, .int 0, .ref q2x23])), (q0x7, .inl (cA 0, zr 0 20)), (q1x15, .inl (cA 0, zr 0 20)), (q2x23, .inl (cA 0, zr 0 20))] 3 60
  exact n_return (fun i => [q0x7, q1x15, q2x23].getD i 0) [0, 1, 2, 3] dV_init_33 rfl (by decide) rfl
def nwS (cA : Nat → ClassId)  (h0 : Nat) (u : Nat → Nat) : va_W := [(h0, .inr (3, [.int 0, .ref (u 0), .ref (u 1), .ref (u 2)])),
  (u 0, .inl (cA 0, zr 0 6)),
  (u 1, .inl (cA 0, zr 0 6)),
  (u 2, .inl (cA 2, zr 2 720))]
set_option maxRecDepth 20000 in
set_option maxHeartbeats 4000000 in
theorem nS_init (cA : Nat → ClassId) (D : va_G)  (h0 : Nat) : NM cA D mS_init [] (h0, .inr (3, [.int 0, .null, .null, .null])) 3 732 (nwS cA  h0) := by
  refine NJ.met ok_mS_init rfl (Nat.le_of_ble_eq_true rfl) rfl ?_
  refine n_aload_n (p2 := 1) dS_init_0 rfl 0 rfl ?_
  refine n_objInit (p2 := 4) dS_init_1 rfl (inW1 206 rfl rfl) (Nat.le_of_ble_eq_true rfl) (Nat.le_of_ble_eq_true rfl) ?_
  refine n_aload_n (p2 := 5) dS_init_4 rfl 0 rfl ?_
  refine n_bipush (v := 6) (p2 := 7) dS_init_5 rfl rfl ?_
  refine n_newa_0 (N := 6) (p2 := 9) dS_init_7 rfl ⟨by decide, rfl, by decide⟩ (Nat.le_of_ble_eq_true rfl) (Nat.le_of_ble_eq_true rfl) (fun q0x7 => ?_)
  refine n_putF (kf := 1) (p2 := 12) dS_init_9 rfl cf_3 (by decide) (inW1 209 rfl rfl) rfl rfl rfl rfl rfl (Nat.le_of_ble_eq_true rfl) ?_
  show NJ cA D mS_init _ _ _ 12 [(0, .ref h0)] [] [(h0, .inr (3, [.int 0, .ref q0x7, .null, .null])), (q0x7, .inl (cA 0, zr 0 6))] 1 6
  refine n_aload_n (p2 := 13) dS_init_12 rfl 0 rfl ?_
  refine n_bipush (v := 6) (p2 := 15) dS_init_13 rfl rfl ?_
  refine n_newa_0 (N := 6) (p2 := 17) dS_init_15 rfl ⟨by decide, rfl, by decide⟩ (Nat.le_of_ble_eq_true rfl) (Nat.le_of_ble_eq_true rfl) (fun q1x15 => ?_)
  refine n_putF (kf := 2) (p2 := 20) dS_init_17 rfl cf_3 (by decide) (inW1 210 rfl rfl) rfl rfl rfl rfl rfl (Nat.le_of_ble_eq_true rfl) ?_
  show NJ cA D mS_init _ _ _ 20 [(0, .ref h0)] [] [(h0, .inr (3, [.int 0, .ref q0x7, .ref q1x15, .null])), (q0x7, .inl (cA 0, zr 0 6)), (q1x15, .inl (cA 0, zr 0 6))] 2 12
  refine n_aload_n (p2 := 21) dS_init_20 rfl 0 rfl ?_
  refine n_sipush (v := 720) (p2 := 24) dS_init_21 rfl rfl ?_
  refine n_newa_2 (N := 720) (p2 := 26) dS_init_24 rfl ⟨by decide, rfl, by decide⟩ (Nat.le_of_ble_eq_true rfl) (Nat.le_of_ble_eq_true rfl) (fun q2x24 => ?_)
  refine n_putF (kf := 3) (p2 := 29) dS_init_26 rfl cf_3 (by decide) (inW1 212 rfl rfl) rfl rfl rfl rfl rfl (Nat.le_of_ble_eq_true rfl) ?_
  show NJ cA D mS_init _ _ _ 29 [(0, .ref h0)] [] [(h0, .inr (3, [.int 0, .ref q0x7, .ref q1x15, .ref q2x24])), (q0x7, .inl (cA 0, zr 0 6)), (q1x15, .inl (cA 0, zr 0 6)), (q2x24, .inl (cA 2, zr 2 720))] 3 732
  exact n_return (fun i => [q0x7, q1x15, q2x24].getD i 0) [0, 1, 2, 3] dS_init_29 rfl (by decide) rfl
def nwT (cA : Nat → ClassId) (a1 a2 a3 : Nat) (bb : Int32) (h0 : Nat) (u : Nat → Nat) : va_W := [(h0, .inr (5, [.ref a1, .ref a2, .ref a3, .int bb, .ref (u 0), .ref (u 1), .ref (u 2), .ref (u 3), .ref (u 4), .ref (u 5), .ref (u 6), .ref (u 7), .ref (u 8), .ref (u 9), .ref (u 10), .ref (u 11)])),
  (u 0, .inl (cA 4, zr 4 20)),
  (u 1, .inl (cA 4, zr 4 20)),
  (u 2, .inl (cA 4, zr 4 20)),
  (u 3, .inl (cA 4, zr 4 320)),
  (u 4, .inl (cA 0, zr 0 20)),
  (u 5, .inl (cA 0, zr 0 20)),
  (u 6, .inl (cA 4, zr 4 20)),
  (u 7, .inl (cA 4, zr 4 20)),
  (u 8, .inl (cA 4, zr 4 20)),
  (u 9, .inl (cA 4, zr 4 20)),
  (u 10, .inl (cA 4, zr 4 20)),
  (u 11, .inl (cA 4, zr 4 20))]
set_option maxRecDepth 20000 in
set_option maxHeartbeats 4000000 in
theorem nT_init (cA : Nat → ClassId) (D : va_G) (a1 a2 a3 : Nat) (bb : Int32) (h0 : Nat) (hb : narrow .boolean (.int bb) = .int bb) (hb2 : fits .boolean (.int bb) = true) : NM cA D mT_init [.ref a1, .ref a2, .ref a3, .int bb] (h0, .inr (5, [.null, .null, .null, .int 0, .null, .null, .null, .null, .null, .null, .null, .null, .null, .null, .null, .null])) 12 540 (nwT cA a1 a2 a3 bb h0) := by
  refine NJ.met ok_mT_init rfl (Nat.le_of_ble_eq_true rfl) rfl ?_
  refine n_aload_n (p2 := 1) dT_init_0 rfl 0 rfl ?_
  refine n_objInit (p2 := 4) dT_init_1 rfl (inW1 149 rfl rfl) (Nat.le_of_ble_eq_true rfl) (Nat.le_of_ble_eq_true rfl) ?_
  refine n_aload_n (p2 := 5) dT_init_4 rfl 0 rfl ?_
  refine n_bipush (v := 20) (p2 := 7) dT_init_5 rfl rfl ?_
  refine n_newa_4 (N := 20) (p2 := 9) dT_init_7 rfl ⟨by decide, rfl, by decide⟩ (Nat.le_of_ble_eq_true rfl) (Nat.le_of_ble_eq_true rfl) (fun q0x7 => ?_)
  refine n_putF (kf := 4) (p2 := 12) dT_init_9 rfl cf_5 (by decide) (inW1 154 rfl rfl) rfl rfl rfl rfl rfl (Nat.le_of_ble_eq_true rfl) ?_
  show NJ cA D mT_init _ _ _ 12 [(0, .ref h0), (1, .ref a1), (2, .ref a2), (3, .ref a3), (4, .int bb)] [] [(h0, .inr (5, [.null, .null, .null, .int 0, .ref q0x7, .null, .null, .null, .null, .null, .null, .null, .null, .null, .null, .null])), (q0x7, .inl (cA 4, zr 4 20))] 1 20
  refine n_aload_n (p2 := 13) dT_init_12 rfl 0 rfl ?_
  refine n_bipush (v := 20) (p2 := 15) dT_init_13 rfl rfl ?_
  refine n_newa_4 (N := 20) (p2 := 17) dT_init_15 rfl ⟨by decide, rfl, by decide⟩ (Nat.le_of_ble_eq_true rfl) (Nat.le_of_ble_eq_true rfl) (fun q1x15 => ?_)
  refine n_putF (kf := 5) (p2 := 20) dT_init_17 rfl cf_5 (by decide) (inW1 157 rfl rfl) rfl rfl rfl rfl rfl (Nat.le_of_ble_eq_true rfl) ?_
  show NJ cA D mT_init _ _ _ 20 [(0, .ref h0), (1, .ref a1), (2, .ref a2), (3, .ref a3), (4, .int bb)] [] [(h0, .inr (5, [.null, .null, .null, .int 0, .ref q0x7, .ref q1x15, .null, .null, .null, .null, .null, .null, .null, .null, .null, .null])), (q0x7, .inl (cA 4, zr 4 20)), (q1x15, .inl (cA 4, zr 4 20))] 2 40
  refine n_aload_n (p2 := 21) dT_init_20 rfl 0 rfl ?_
  refine n_bipush (v := 20) (p2 := 23) dT_init_21 rfl rfl ?_
  refine n_newa_4 (N := 20) (p2 := 25) dT_init_23 rfl ⟨by decide, rfl, by decide⟩ (Nat.le_of_ble_eq_true rfl) (Nat.le_of_ble_eq_true rfl) (fun q2x23 => ?_)
  refine n_putF (kf := 6) (p2 := 28) dT_init_25 rfl cf_5 (by decide) (inW1 158 rfl rfl) rfl rfl rfl rfl rfl (Nat.le_of_ble_eq_true rfl) ?_
  show NJ cA D mT_init _ _ _ 28 [(0, .ref h0), (1, .ref a1), (2, .ref a2), (3, .ref a3), (4, .int bb)] [] [(h0, .inr (5, [.null, .null, .null, .int 0, .ref q0x7, .ref q1x15, .ref q2x23, .null, .null, .null, .null, .null, .null, .null, .null, .null])), (q0x7, .inl (cA 4, zr 4 20)), (q1x15, .inl (cA 4, zr 4 20)), (q2x23, .inl (cA 4, zr 4 20))] 3 60
  refine n_aload_n (p2 := 29) dT_init_28 rfl 0 rfl ?_
  refine n_sipush (v := 320) (p2 := 32) dT_init_29 rfl rfl ?_
  refine n_newa_4 (N := 320) (p2 := 34) dT_init_32 rfl ⟨by decide, rfl, by decide⟩ (Nat.le_of_ble_eq_true rfl) (Nat.le_of_ble_eq_true rfl) (fun q3x32 => ?_)
  refine n_putF (kf := 7) (p2 := 37) dT_init_34 rfl cf_5 (by decide) (inW1 159 rfl rfl) rfl rfl rfl rfl rfl (Nat.le_of_ble_eq_true rfl) ?_
  show NJ cA D mT_init _ _ _ 37 [(0, .ref h0), (1, .ref a1), (2, .ref a2), (3, .ref a3), (4, .int bb)] [] [(h0, .inr (5, [.null, .null, .null, .int 0, .ref q0x7, .ref q1x15, .ref q2x23, .ref q3x32, .null, .null, .null, .null, .null, .null, .null, .null])), (q0x7, .inl (cA 4, zr 4 20)), (q1x15, .inl (cA 4, zr 4 20)), (q2x23, .inl (cA 4, zr 4 20)), (q3x32, .inl (cA 4, zr 4 320))] 4 380
  refine n_aload_n (p2 := 38) dT_init_37 rfl 0 rfl ?_
  refine n_bipush (v := 20) (p2 := 40) dT_init_38 rfl rfl ?_
  refine n_newa_0 (N := 20) (p2 := 42) dT_init_40 rfl ⟨by decide, rfl, by decide⟩ (Nat.le_of_ble_eq_true rfl) (Nat.le_of_ble_eq_true rfl) (fun q4x40 => ?_)
  refine n_putF (kf := 8) (p2 := 45) dT_init_42 rfl cf_5 (by decide) (inW1 160 rfl rfl) rfl rfl rfl rfl rfl (Nat.le_of_ble_eq_true rfl) ?_
  show NJ cA D mT_init _ _ _ 45 [(0, .ref h0), (1, .ref a1), (2, .ref a2), (3, .ref a3), (4, .int bb)] [] [(h0, .inr (5, [.null, .null, .null, .int 0, .ref q0x7, .ref q1x15, .ref q2x23, .ref q3x32, .ref q4x40, .null, .null, .null, .null, .null, .null, .null])), (q0x7, .inl (cA 4, zr 4 20)), (q1x15, .inl (cA 4, zr 4 20)), (q2x23, .inl (cA 4, zr 4 20)), (q3x32, .inl (cA 4, zr 4 320)), (q4x40, .inl (cA 0, zr 0 20))] 5 400
  refine n_aload_n (p2 := 46) dT_init_45 rfl 0 rfl ?_
  refine n_bipush (v := 20) (p2 := 48) dT_init_46 rfl rfl ?_
  refine n_newa_0 (N := 20) (p2 := 50) dT_init_48 rfl ⟨by decide, rfl, by decide⟩ (Nat.le_of_ble_eq_true rfl) (Nat.le_of_ble_eq_true rfl) (fun q5x48 => ?_)
  refine n_putF (kf := 9) (p2 := 53) dT_init_50 rfl cf_5 (by decide) (inW1 161 rfl rfl) rfl rfl rfl rfl rfl (Nat.le_of_ble_eq_true rfl) ?_
  show NJ cA D mT_init _ _ _ 53 [(0, .ref h0), (1, .ref a1), (2, .ref a2), (3, .ref a3), (4, .int bb)] [] [(h0, .inr (5, [.null, .null, .null, .int 0, .ref q0x7, .ref q1x15, .ref q2x23, .ref q3x32, .ref q4x40, .ref q5x48, .null, .null, .null, .null, .null, .null])), (q0x7, .inl (cA 4, zr 4 20)), (q1x15, .inl (cA 4, zr 4 20)), (q2x23, .inl (cA 4, zr 4 20)), (q3x32, .inl (cA 4, zr 4 320)), (q4x40, .inl (cA 0, zr 0 20)), (q5x48, .inl (cA 0, zr 0 20))] 6 420
  refine n_aload_n (p2 := 54) dT_init_53 rfl 0 rfl ?_
  refine n_bipush (v := 20) (p2 := 56) dT_init_54 rfl rfl ?_
  refine n_newa_4 (N := 20) (p2 := 58) dT_init_56 rfl ⟨by decide, rfl, by decide⟩ (Nat.le_of_ble_eq_true rfl) (Nat.le_of_ble_eq_true rfl) (fun q6x56 => ?_)
  refine n_putF (kf := 10) (p2 := 61) dT_init_58 rfl cf_5 (by decide) (inW1 162 rfl rfl) rfl rfl rfl rfl rfl (Nat.le_of_ble_eq_true rfl) ?_
  show NJ cA D mT_init _ _ _ 61 [(0, .ref h0), (1, .ref a1), (2, .ref a2), (3, .ref a3), (4, .int bb)] [] [(h0, .inr (5, [.null, .null, .null, .int 0, .ref q0x7, .ref q1x15, .ref q2x23, .ref q3x32, .ref q4x40, .ref q5x48, .ref q6x56, .null, .null, .null, .null, .null])), (q0x7, .inl (cA 4, zr 4 20)), (q1x15, .inl (cA 4, zr 4 20)), (q2x23, .inl (cA 4, zr 4 20)), (q3x32, .inl (cA 4, zr 4 320)), (q4x40, .inl (cA 0, zr 0 20)), (q5x48, .inl (cA 0, zr 0 20)), (q6x56, .inl (cA 4, zr 4 20))] 7 440
  refine n_aload_n (p2 := 62) dT_init_61 rfl 0 rfl ?_
  refine n_bipush (v := 20) (p2 := 64) dT_init_62 rfl rfl ?_
  refine n_newa_4 (N := 20) (p2 := 66) dT_init_64 rfl ⟨by decide, rfl, by decide⟩ (Nat.le_of_ble_eq_true rfl) (Nat.le_of_ble_eq_true rfl) (fun q7x64 => ?_)
  refine n_putF (kf := 11) (p2 := 69) dT_init_66 rfl cf_5 (by decide) (inW1 163 rfl rfl) rfl rfl rfl rfl rfl (Nat.le_of_ble_eq_true rfl) ?_
  show NJ cA D mT_init _ _ _ 69 [(0, .ref h0), (1, .ref a1), (2, .ref a2), (3, .ref a3), (4, .int bb)] [] [(h0, .inr (5, [.null, .null, .null, .int 0, .ref q0x7, .ref q1x15, .ref q2x23, .ref q3x32, .ref q4x40, .ref q5x48, .ref q6x56, .ref q7x64, .null, .null, .null, .null])), (q0x7, .inl (cA 4, zr 4 20)), (q1x15, .inl (cA 4, zr 4 20)), (q2x23, .inl (cA 4, zr 4 20)), (q3x32, .inl (cA 4, zr 4 320)), (q4x40, .inl (cA 0, zr 0 20)), (q5x48, .inl (cA 0, zr 0 20)), (q6x56, .inl (cA 4, zr 4 20)), (q7x64, .inl (cA 4, zr 4 20))] 8 460
  refine n_aload_n (p2 := 70) dT_init_69 rfl 0 rfl ?_
  refine n_bipush (v := 20) (p2 := 72) dT_init_70 rfl rfl ?_
  refine n_newa_4 (N := 20) (p2 := 74) dT_init_72 rfl ⟨by decide, rfl, by decide⟩ (Nat.le_of_ble_eq_true rfl) (Nat.le_of_ble_eq_true rfl) (fun q8x72 => ?_)
  refine n_putF (kf := 12) (p2 := 77) dT_init_74 rfl cf_5 (by decide) (inW1 164 rfl rfl) rfl rfl rfl rfl rfl (Nat.le_of_ble_eq_true rfl) ?_
  show NJ cA D mT_init _ _ _ 77 [(0, .ref h0), (1, .ref a1), (2, .ref a2), (3, .ref a3), (4, .int bb)] [] [(h0, .inr (5, [.null, .null, .null, .int 0, .ref q0x7, .ref q1x15, .ref q2x23, .ref q3x32, .ref q4x40, .ref q5x48, .ref q6x56, .ref q7x64, .ref q8x72, .null, .null, .null])), (q0x7, .inl (cA 4, zr 4 20)), (q1x15, .inl (cA 4, zr 4 20)), (q2x23, .inl (cA 4, zr 4 20)), (q3x32, .inl (cA 4, zr 4 320)), (q4x40, .inl (cA 0, zr 0 20)), (q5x48, .inl (cA 0, zr 0 20)), (q6x56, .inl (cA 4, zr 4 20)), (q7x64, .inl (cA 4, zr 4 20)), (q8x72, .inl (cA 4, zr 4 20))] 9 480
  refine n_aload_n (p2 := 78) dT_init_77 rfl 0 rfl ?_
  refine n_bipush (v := 20) (p2 := 80) dT_init_78 rfl rfl ?_
  refine n_newa_4 (N := 20) (p2 := 82) dT_init_80 rfl ⟨by decide, rfl, by decide⟩ (Nat.le_of_ble_eq_true rfl) (Nat.le_of_ble_eq_true rfl) (fun q9x80 => ?_)
  refine n_putF (kf := 13) (p2 := 85) dT_init_82 rfl cf_5 (by decide) (inW1 165 rfl rfl) rfl rfl rfl rfl rfl (Nat.le_of_ble_eq_true rfl) ?_
  show NJ cA D mT_init _ _ _ 85 [(0, .ref h0), (1, .ref a1), (2, .ref a2), (3, .ref a3), (4, .int bb)] [] [(h0, .inr (5, [.null, .null, .null, .int 0, .ref q0x7, .ref q1x15, .ref q2x23, .ref q3x32, .ref q4x40, .ref q5x48, .ref q6x56, .ref q7x64, .ref q8x72, .ref q9x80, .null, .null])), (q0x7, .inl (cA 4, zr 4 20)), (q1x15, .inl (cA 4, zr 4 20)), (q2x23, .inl (cA 4, zr 4 20)), (q3x32, .inl (cA 4, zr 4 320)), (q4x40, .inl (cA 0, zr 0 20)), (q5x48, .inl (cA 0, zr 0 20)), (q6x56, .inl (cA 4, zr 4 20)), (q7x64, .inl (cA 4, zr 4 20)), (q8x72, .inl (cA 4, zr 4 20)), (q9x80, .inl (cA 4, zr 4 20))] 10 500
  refine n_aload_n (p2 := 86) dT_init_85 rfl 0 rfl ?_
  refine n_bipush (v := 20) (p2 := 88) dT_init_86 rfl rfl ?_
  refine n_newa_4 (N := 20) (p2 := 90) dT_init_88 rfl ⟨by decide, rfl, by decide⟩ (Nat.le_of_ble_eq_true rfl) (Nat.le_of_ble_eq_true rfl) (fun q10x88 => ?_)
  refine n_putF (kf := 14) (p2 := 93) dT_init_90 rfl cf_5 (by decide) (inW1 166 rfl rfl) rfl rfl rfl rfl rfl (Nat.le_of_ble_eq_true rfl) ?_
  show NJ cA D mT_init _ _ _ 93 [(0, .ref h0), (1, .ref a1), (2, .ref a2), (3, .ref a3), (4, .int bb)] [] [(h0, .inr (5, [.null, .null, .null, .int 0, .ref q0x7, .ref q1x15, .ref q2x23, .ref q3x32, .ref q4x40, .ref q5x48, .ref q6x56, .ref q7x64, .ref q8x72, .ref q9x80, .ref q10x88, .null])), (q0x7, .inl (cA 4, zr 4 20)), (q1x15, .inl (cA 4, zr 4 20)), (q2x23, .inl (cA 4, zr 4 20)), (q3x32, .inl (cA 4, zr 4 320)), (q4x40, .inl (cA 0, zr 0 20)), (q5x48, .inl (cA 0, zr 0 20)), (q6x56, .inl (cA 4, zr 4 20)), (q7x64, .inl (cA 4, zr 4 20)), (q8x72, .inl (cA 4, zr 4 20)), (q9x80, .inl (cA 4, zr 4 20)), (q10x88, .inl (cA 4, zr 4 20))] 11 520
  refine n_aload_n (p2 := 94) dT_init_93 rfl 0 rfl ?_
  refine n_bipush (v := 20) (p2 := 96) dT_init_94 rfl rfl ?_
  refine n_newa_4 (N := 20) (p2 := 98) dT_init_96 rfl ⟨by decide, rfl, by decide⟩ (Nat.le_of_ble_eq_true rfl) (Nat.le_of_ble_eq_true rfl) (fun q11x96 => ?_)
  refine n_putF (kf := 15) (p2 := 101) dT_init_98 rfl cf_5 (by decide) (inW1 167 rfl rfl) rfl rfl rfl rfl rfl (Nat.le_of_ble_eq_true rfl) ?_
  show NJ cA D mT_init _ _ _ 101 [(0, .ref h0), (1, .ref a1), (2, .ref a2), (3, .ref a3), (4, .int bb)] [] [(h0, .inr (5, [.null, .null, .null, .int 0, .ref q0x7, .ref q1x15, .ref q2x23, .ref q3x32, .ref q4x40, .ref q5x48, .ref q6x56, .ref q7x64, .ref q8x72, .ref q9x80, .ref q10x88, .ref q11x96])), (q0x7, .inl (cA 4, zr 4 20)), (q1x15, .inl (cA 4, zr 4 20)), (q2x23, .inl (cA 4, zr 4 20)), (q3x32, .inl (cA 4, zr 4 320)), (q4x40, .inl (cA 0, zr 0 20)), (q5x48, .inl (cA 0, zr 0 20)), (q6x56, .inl (cA 4, zr 4 20)), (q7x64, .inl (cA 4, zr 4 20)), (q8x72, .inl (cA 4, zr 4 20)), (q9x80, .inl (cA 4, zr 4 20)), (q10x88, .inl (cA 4, zr 4 20)), (q11x96, .inl (cA 4, zr 4 20))] 12 540
  refine n_aload_n (p2 := 102) dT_init_101 rfl 0 rfl ?_
  refine n_aload_n (p2 := 103) dT_init_102 rfl 1 rfl ?_
  refine n_putF (kf := 0) (p2 := 106) dT_init_103 rfl cf_5 (by decide) (inW1 150 rfl rfl) rfl rfl rfl rfl rfl (Nat.le_of_ble_eq_true rfl) ?_
  show NJ cA D mT_init _ _ _ 106 [(0, .ref h0), (1, .ref a1), (2, .ref a2), (3, .ref a3), (4, .int bb)] [] [(h0, .inr (5, [.ref a1, .null, .null, .int 0, .ref q0x7, .ref q1x15, .ref q2x23, .ref q3x32, .ref q4x40, .ref q5x48, .ref q6x56, .ref q7x64, .ref q8x72, .ref q9x80, .ref q10x88, .ref q11x96])), (q0x7, .inl (cA 4, zr 4 20)), (q1x15, .inl (cA 4, zr 4 20)), (q2x23, .inl (cA 4, zr 4 20)), (q3x32, .inl (cA 4, zr 4 320)), (q4x40, .inl (cA 0, zr 0 20)), (q5x48, .inl (cA 0, zr 0 20)), (q6x56, .inl (cA 4, zr 4 20)), (q7x64, .inl (cA 4, zr 4 20)), (q8x72, .inl (cA 4, zr 4 20)), (q9x80, .inl (cA 4, zr 4 20)), (q10x88, .inl (cA 4, zr 4 20)), (q11x96, .inl (cA 4, zr 4 20))] 12 540
  refine n_aload_n (p2 := 107) dT_init_106 rfl 0 rfl ?_
  refine n_aload_n (p2 := 108) dT_init_107 rfl 2 rfl ?_
  refine n_putF (kf := 1) (p2 := 111) dT_init_108 rfl cf_5 (by decide) (inW1 151 rfl rfl) rfl rfl rfl rfl rfl (Nat.le_of_ble_eq_true rfl) ?_
  show NJ cA D mT_init _ _ _ 111 [(0, .ref h0), (1, .ref a1), (2, .ref a2), (3, .ref a3), (4, .int bb)] [] [(h0, .inr (5, [.ref a1, .ref a2, .null, .int 0, .ref q0x7, .ref q1x15, .ref q2x23, .ref q3x32, .ref q4x40, .ref q5x48, .ref q6x56, .ref q7x64, .ref q8x72, .ref q9x80, .ref q10x88, .ref q11x96])), (q0x7, .inl (cA 4, zr 4 20)), (q1x15, .inl (cA 4, zr 4 20)), (q2x23, .inl (cA 4, zr 4 20)), (q3x32, .inl (cA 4, zr 4 320)), (q4x40, .inl (cA 0, zr 0 20)), (q5x48, .inl (cA 0, zr 0 20)), (q6x56, .inl (cA 4, zr 4 20)), (q7x64, .inl (cA 4, zr 4 20)), (q8x72, .inl (cA 4, zr 4 20)), (q9x80, .inl (cA 4, zr 4 20)), (q10x88, .inl (cA 4, zr 4 20)), (q11x96, .inl (cA 4, zr 4 20))] 12 540
  refine n_aload_n (p2 := 112) dT_init_111 rfl 0 rfl ?_
  refine n_aload_n (p2 := 113) dT_init_112 rfl 3 rfl ?_
  refine n_putF (kf := 2) (p2 := 116) dT_init_113 rfl cf_5 (by decide) (inW1 152 rfl rfl) rfl rfl rfl rfl rfl (Nat.le_of_ble_eq_true rfl) ?_
  show NJ cA D mT_init _ _ _ 116 [(0, .ref h0), (1, .ref a1), (2, .ref a2), (3, .ref a3), (4, .int bb)] [] [(h0, .inr (5, [.ref a1, .ref a2, .ref a3, .int 0, .ref q0x7, .ref q1x15, .ref q2x23, .ref q3x32, .ref q4x40, .ref q5x48, .ref q6x56, .ref q7x64, .ref q8x72, .ref q9x80, .ref q10x88, .ref q11x96])), (q0x7, .inl (cA 4, zr 4 20)), (q1x15, .inl (cA 4, zr 4 20)), (q2x23, .inl (cA 4, zr 4 20)), (q3x32, .inl (cA 4, zr 4 320)), (q4x40, .inl (cA 0, zr 0 20)), (q5x48, .inl (cA 0, zr 0 20)), (q6x56, .inl (cA 4, zr 4 20)), (q7x64, .inl (cA 4, zr 4 20)), (q8x72, .inl (cA 4, zr 4 20)), (q9x80, .inl (cA 4, zr 4 20)), (q10x88, .inl (cA 4, zr 4 20)), (q11x96, .inl (cA 4, zr 4 20))] 12 540
  refine n_aload_n (p2 := 117) dT_init_116 rfl 0 rfl ?_
  refine n_iload (p2 := 119) dT_init_117 rfl 4 rfl ?_
  refine n_putF (kf := 3) (p2 := 122) dT_init_119 rfl cf_5 (by decide) (inW1 153 rfl rfl) rfl rfl rfl hb hb2 (Nat.le_of_ble_eq_true rfl) ?_
  show NJ cA D mT_init _ _ _ 122 [(0, .ref h0), (1, .ref a1), (2, .ref a2), (3, .ref a3), (4, .int bb)] [] [(h0, .inr (5, [.ref a1, .ref a2, .ref a3, .int bb, .ref q0x7, .ref q1x15, .ref q2x23, .ref q3x32, .ref q4x40, .ref q5x48, .ref q6x56, .ref q7x64, .ref q8x72, .ref q9x80, .ref q10x88, .ref q11x96])), (q0x7, .inl (cA 4, zr 4 20)), (q1x15, .inl (cA 4, zr 4 20)), (q2x23, .inl (cA 4, zr 4 20)), (q3x32, .inl (cA 4, zr 4 320)), (q4x40, .inl (cA 0, zr 0 20)), (q5x48, .inl (cA 0, zr 0 20)), (q6x56, .inl (cA 4, zr 4 20)), (q7x64, .inl (cA 4, zr 4 20)), (q8x72, .inl (cA 4, zr 4 20)), (q9x80, .inl (cA 4, zr 4 20)), (q10x88, .inl (cA 4, zr 4 20)), (q11x96, .inl (cA 4, zr 4 20))] 12 540
  exact n_return (fun i => [q0x7, q1x15, q2x23, q3x32, q4x40, q5x48, q6x56, q7x64, q8x72, q9x80, q10x88, q11x96].getD i 0) [0, 1, 2, 3, 4, 5, 6, 7, 8, 9, 10, 11, 12] dT_init_122 rfl (by decide) rfl
def nwR (cA : Nat → ClassId) (a1 a2 : Nat) (h0 : Nat) (u : Nat → Nat) : va_W := [(h0, .inr (4, [.ref a1, .ref (u 4), .ref (u 0), .int 0, .ref (u 1)])),
  (u 0, .inl (cA 4, zr 4 6)),
  (u 1, .inl (cA 4, zr 4 20)),
  (u 2, .inr (0, [.ref (u 3), .int 0])),
  (u 3, .inl (cA 0, 20, .inl (fil 20))),
  (u 4, .inr (5, [.ref a1, .ref a2, .ref (u 2), .int 0, .ref (u 5), .ref (u 6), .ref (u 7), .ref (u 8), .ref (u 9), .ref (u 10), .ref (u 11), .ref (u 12), .ref (u 13), .ref (u 14), .ref (u 15), .ref (u 16)])),
  (u 5, .inl (cA 4, zr 4 20)),
  (u 6, .inl (cA 4, zr 4 20)),
  (u 7, .inl (cA 4, zr 4 20)),
  (u 8, .inl (cA 4, zr 4 320)),
  (u 9, .inl (cA 0, zr 0 20)),
  (u 10, .inl (cA 0, zr 0 20)),
  (u 11, .inl (cA 4, zr 4 20)),
  (u 12, .inl (cA 4, zr 4 20)),
  (u 13, .inl (cA 4, zr 4 20)),
  (u 14, .inl (cA 4, zr 4 20)),
  (u 15, .inl (cA 4, zr 4 20)),
  (u 16, .inl (cA 4, zr 4 20))]
set_option maxRecDepth 20000 in
set_option maxHeartbeats 4000000 in
theorem nR_init (cA : Nat → ClassId) (D : va_G) (a1 a2 : Nat) (h0 : Nat) : NM cA D mR_init [.ref a1, .ref a2] (h0, .inr (4, [.null, .null, .null, .int 0, .null])) 17 604 (nwR cA a1 a2 h0) := by
  refine NJ.met ok_mR_init rfl (Nat.le_of_ble_eq_true rfl) rfl ?_
  refine n_aload_n (p2 := 1) dR_init_0 rfl 0 rfl ?_
  refine n_objInit (p2 := 4) dR_init_1 rfl (inW1 227 rfl rfl) (Nat.le_of_ble_eq_true rfl) (Nat.le_of_ble_eq_true rfl) ?_
  refine n_aload_n (p2 := 5) dR_init_4 rfl 0 rfl ?_
  refine n_bipush (v := 6) (p2 := 7) dR_init_5 rfl rfl ?_
  refine n_newa_4 (N := 6) (p2 := 9) dR_init_7 rfl ⟨by decide, rfl, by decide⟩ (Nat.le_of_ble_eq_true rfl) (Nat.le_of_ble_eq_true rfl) (fun q0x7 => ?_)
  refine n_putF (kf := 2) (p2 := 12) dR_init_9 rfl cf_4 (by decide) (inW1 234 rfl rfl) rfl rfl rfl rfl rfl (Nat.le_of_ble_eq_true rfl) ?_
  show NJ cA D mR_init _ _ _ 12 [(0, .ref h0), (1, .ref a1), (2, .ref a2)] [] [(h0, .inr (4, [.null, .null, .ref q0x7, .int 0, .null])), (q0x7, .inl (cA 4, zr 4 6))] 1 6
  refine n_aload_n (p2 := 13) dR_init_12 rfl 0 rfl ?_
  refine n_bipush (v := 20) (p2 := 15) dR_init_13 rfl rfl ?_
  refine n_newa_4 (N := 20) (p2 := 17) dR_init_15 rfl ⟨by decide, rfl, by decide⟩ (Nat.le_of_ble_eq_true rfl) (Nat.le_of_ble_eq_true rfl) (fun q1x15 => ?_)
  refine n_putF (kf := 4) (p2 := 20) dR_init_17 rfl cf_4 (by decide) (inW1 237 rfl rfl) rfl rfl rfl rfl rfl (Nat.le_of_ble_eq_true rfl) ?_
  show NJ cA D mR_init _ _ _ 20 [(0, .ref h0), (1, .ref a1), (2, .ref a2)] [] [(h0, .inr (4, [.null, .null, .ref q0x7, .int 0, .ref q1x15])), (q0x7, .inl (cA 4, zr 4 6)), (q1x15, .inl (cA 4, zr 4 20))] 2 26
  refine n_aload_n (p2 := 21) dR_init_20 rfl 0 rfl ?_
  refine n_aload_n (p2 := 22) dR_init_21 rfl 1 rfl ?_
  refine n_putF (kf := 0) (p2 := 25) dR_init_22 rfl cf_4 (by decide) (inW1 232 rfl rfl) rfl rfl rfl rfl rfl (Nat.le_of_ble_eq_true rfl) ?_
  show NJ cA D mR_init _ _ _ 25 [(0, .ref h0), (1, .ref a1), (2, .ref a2)] [] [(h0, .inr (4, [.ref a1, .null, .ref q0x7, .int 0, .ref q1x15])), (q0x7, .inl (cA 4, zr 4 6)), (q1x15, .inl (cA 4, zr 4 20))] 2 26
  refine n_aload_n (p2 := 26) dR_init_25 rfl 0 rfl ?_
  refine n_new (fs := [.null, .null, .null, .int 0, .null, .null, .null, .null, .null, .null, .null, .null, .null, .null, .null, .null]) (p2 := 29) dR_init_26 rfl cf_5 (inW1 228 rfl rfl) (inW1 145 rfl rfl) (inW1 5 rfl rfl) (fun j hj => match j, hj with | 0, _ => rfl | 1, _ => rfl | 2, _ => rfl | 3, _ => rfl | 4, _ => rfl | 5, _ => rfl | 6, _ => rfl | 7, _ => rfl | 8, _ => rfl | 9, _ => rfl | 10, _ => rfl | 11, _ => rfl | 12, _ => rfl | 13, _ => rfl | 14, _ => rfl | 15, _ => rfl | _ + 16, h => absurd h (by omega)) (Nat.le_of_ble_eq_true rfl) (Nat.le_of_ble_eq_true rfl) (fun o2x26 => ?_)
  refine n_dup (p2 := 30) dR_init_29 rfl rfl ?_
  refine n_aload_n (p2 := 31) dR_init_30 rfl 1 rfl ?_
  refine n_aload_n (p2 := 32) dR_init_31 rfl 2 rfl ?_
  refine n_new (fs := [.null, .int 0]) (p2 := 35) dR_init_32 rfl cf_0 (inW1 229 rfl rfl) (inW1 130 rfl rfl) (inW1 4 rfl rfl) (fun j hj => match j, hj with | 0, _ => rfl | 1, _ => rfl | _ + 2, h => absurd h (by omega)) (Nat.le_of_ble_eq_true rfl) (Nat.le_of_ble_eq_true rfl) (fun o3x32 => ?_)
  refine n_dup (p2 := 36) dR_init_35 rfl rfl ?_
  refine n_callI (as0 := ([(q0x7, .inl (cA 4, zr 4 6)), (q1x15, .inl (cA 4, zr 4 20))] ++ [(o2x26, .inr (5, [.null, .null, .null, .int 0, .null, .null, .null, .null, .null, .null, .null, .null, .null, .null, .null, .null]))])) (u2 := []) (st := [.ref o3x32, .ref a2, .ref a1, .ref o2x26, .ref o2x26, .ref h0]) (nL_init cA D o3x32) (p2 := 39) dR_init_36 rfl (inW1 230 rfl rfl) ok_mL_init rfl (inW1 132 rfl rfl) rfl rfl rfl rfl (Nat.le_of_ble_eq_true rfl) (Nat.le_of_ble_eq_true rfl) (Nat.le_of_ble_eq_true rfl) ⟨(Nat.le_of_ble_eq_true rfl), (Nat.le_of_ble_eq_true rfl)⟩ (fun u0 => ?_)
  refine n_iconst (v := 0) (p2 := 40) dR_init_39 rfl rfl ?_
  refine n_callI (as0 := [(q0x7, .inl (cA 4, zr 4 6)), (q1x15, .inl (cA 4, zr 4 20))]) (u2 := (nwL cA o3x32 u0)) (st := [.ref o2x26, .ref h0]) (nT_init cA D a1 a2 o3x32 0 o2x26 rfl rfl) (p2 := 43) dR_init_40 rfl (inW1 231 rfl rfl) ok_mT_init rfl (inW1 147 rfl rfl) rfl rfl rfl rfl (Nat.le_of_ble_eq_true rfl) (Nat.le_of_ble_eq_true rfl) (Nat.le_of_ble_eq_true rfl) ⟨(Nat.le_of_ble_eq_true rfl), (Nat.le_of_ble_eq_true rfl)⟩ (fun u1 => ?_)
  refine n_putF (kf := 1) (p2 := 46) dR_init_43 rfl cf_4 (by decide) (inW1 233 rfl rfl) rfl rfl rfl rfl rfl (Nat.le_of_ble_eq_true rfl) ?_
  show NJ cA D mR_init _ _ _ 46 [(0, .ref h0), (1, .ref a1), (2, .ref a2)] [] [(h0, .inr (4, [.ref a1, .ref o2x26, .ref q0x7, .int 0, .ref q1x15])), (q0x7, .inl (cA 4, zr 4 6)), (q1x15, .inl (cA 4, zr 4 20)), (o3x32, .inr (0, [.ref (u0 0), .int 0])), ((u0 0), .inl (cA 0, 20, .inl (fil 20))), (o2x26, .inr (5, [.ref a1, .ref a2, .ref o3x32, .int 0, .ref (u1 0), .ref (u1 1), .ref (u1 2), .ref (u1 3), .ref (u1 4), .ref (u1 5), .ref (u1 6), .ref (u1 7), .ref (u1 8), .ref (u1 9), .ref (u1 10), .ref (u1 11)])), ((u1 0), .inl (cA 4, zr 4 20)), ((u1 1), .inl (cA 4, zr 4 20)), ((u1 2), .inl (cA 4, zr 4 20)), ((u1 3), .inl (cA 4, zr 4 320)), ((u1 4), .inl (cA 0, zr 0 20)), ((u1 5), .inl (cA 0, zr 0 20)), ((u1 6), .inl (cA 4, zr 4 20)), ((u1 7), .inl (cA 4, zr 4 20)), ((u1 8), .inl (cA 4, zr 4 20)), ((u1 9), .inl (cA 4, zr 4 20)), ((u1 10), .inl (cA 4, zr 4 20)), ((u1 11), .inl (cA 4, zr 4 20))] 17 604
  exact n_return (fun i => [q0x7, q1x15, o3x32, (u0 0), o2x26, (u1 0), (u1 1), (u1 2), (u1 3), (u1 4), (u1 5), (u1 6), (u1 7), (u1 8), (u1 9), (u1 10), (u1 11)].getD i 0) [0, 1, 2, 3, 4, 5, 6, 7, 8, 9, 10, 11, 12, 13, 14, 15, 16, 17] dR_init_46 rfl (by decide) rfl
