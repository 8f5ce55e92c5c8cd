theorem pf_shr3 {a d : Nat} {D : Int64} (hD : (D.toBitVec.smod 64).toNat = d) (h : a < 2 ^ 63) : lN a >>> D = lN (a / 2 ^ d) := by
  have hd : a / 2 ^ d ≤ a := Nat.div_le_self _ _
  apply Int64.toInt_inj.mp
  have e : (lN a >>> D).toInt = (lN a).toInt >>> d := by
    rw [← hD]
    exact BitVec.toInt_sshiftRight ..
  rw [e, Int.shiftRight_eq_div_pow, pf_lI (by omega), pf_lI (by omega)]
  rfl
theorem jl_shr3 {n k : Nat} (hn : n < 2 ^ 63) (hk : k < 64) : jlshr (lN n) (k : Int) = lN (n / 2 ^ k) := by
  unfold jlshr; rw [iw_nat, wb_c k hk]
  refine pf_shr3 ?_ hn
  rw [wb_tb, wb_sm k hk, BitVec.toNat_ofNat]; omega
/-- the root out of a significand of 53 digits and an exponent -/
def rootX (m : Nat) (p : Int) : UInt64 := FP.Core.of64 (FP.Core.round FP.Core.b64 (.fin false ((FP.Core.sqrtFloor ((if p % 2 = 0 then m else 2 * m) * 2 ^ 54) + 1) / 2) ((if p % 2 = 0 then p else p - 1) / 2 - 26)))
theorem rootP_X {x : UInt64} {s : Bool} {c : Nat} {q : Int} (h : FP.Core.val64 x = .fin s c q) : rootP x = rootX (c * 2 ^ (52 - (c.log2 : Int)).toNat) (q + (c.log2 : Int) - 52) := by
  unfold rootP rootX sqM
  rw [h]
  by_cases g : (q + (c.log2 : Int) - 52) % 2 = 0
  · simp only [g, if_true]
  · have : q + (c.log2 : Int) - 53 = q + (c.log2 : Int) - 52 - 1 := by omega
    simp only [g, if_false, this]
theorem jirem_2 {p : Int} (hp : inR p) : jirem p 2 = p.tmod 2 := by
  unfold jirem
  rw [rem_toInt, iw_toInt hp, iw_toInt (by decide)]
theorem jidiv_2 {h : Int} (hp : -1000000 ≤ h ∧ h ≤ 1000000) : jidiv (2 * h) 2 = h := by
  unfold jidiv
  have e1 : (iw (2 * h) / iw 2).toInt = ((iw (2 * h)).toInt.tdiv (iw 2).toInt) := by
    rw [Int32.toInt_div, iw_toInt ⟨by omega, by omega⟩, iw_toInt (by decide)]
    have : (2 * h).tdiv 2 = h := Int.mul_tdiv_cancel_left h (by decide)
    rw [this]
    have hs : (2 ^ 32 : Nat) = 4294967296 := rfl
    exact Int.bmod_eq_of_le (by omega) (by omega)
  rw [e1, iw_toInt ⟨by omega, by omega⟩, iw_toInt (by decide)]
  exact Int.mul_tdiv_cancel_left h (by decide)
section RT2
variable {σ : Hp} {Q : Option PV → Hp → Prop}
/-- from the loop on -/
theorem cM_root97 {m : Nat} {h : Int} (hm : m < 2 ^ 54) (hh : -700 ≤ h ∧ h ≤ 700) (hQ : Q (some (vD (FP.Core.of64 (FP.Core.round FP.Core.b64 (.fin false ((FP.Core.sqrtFloor (m * 2 ^ 54) + 1) / 2) (h - 26)))))) σ) :
    ∀ (n k q rest : Nat), k ≤ 54 → 55 ≤ k + n → q * q + rest = rtP m k → rest ≤ 2 * q → q < 2 ^ k → J mM_root 97 [(5, vL (lN m)), (7, vI (2 * h)), (8, vL (lN q)), (10, vL (lN rest)), (12, vI k)] [] σ Q := by
  intro n
  induction n with
  | zero => intro k q rest h1 h2; exact absurd h2 (by omega)
  | succ n ih =>
    intro k q rest h1 h2 h3 h4 h5
    have hq54 : q < 2 ^ 54 := Nat.lt_of_lt_of_le h5 (Nat.pow_le_pow_right (by decide) h1)
    have eQ : jlshl (lN q) 1 = lN (2 * q) := by
      rw [show (1 : Int) = ((1 : Nat) : Int) from rfl, jl_shl q (by decide), Nat.pow_one, Nat.mul_comm]
    have eT : jlshl (lN q) 2 ||| 1 = lN (4 * q + 1) := by
      rw [show (2 : Int) = ((2 : Nat) : Int) from rfl, jl_shl q (by decide)]
      have := g_or (k := 2) (p := 4) (a := 1) (b := q) rfl (by decide) (by omega)
      rw [Nat.mul_comm 4 q]; exact this
    have eR : jlshl (lN rest) 2 = lN (rest * 4) := by
      rw [show (2 : Int) = ((2 : Nat) : Int) from rfl, jl_shl rest (by decide)]
    have go : k < 54 → J mM_root 154 [(5, vL (lN m)), (7, vI (2 * h)), (8, vL (lN (2 * q))), (10, vL (lN (4 * rest + rtP m (k + 1) % 4))), (12, vI k), (15, vL (lN (4 * q + 1)))] [] σ Q := by
      intro hk
      obtain ⟨s1, s2⟩ := rt_step h3 h4 (rtP_s hk)
      have hq2 : 2 * q + 1 < 2 ^ (k + 1) := by rw [Nat.pow_succ]; omega
      have hlt : lN (4 * rest + rtP m (k + 1) % 4) < lN (4 * q + 1) ↔ 4 * rest + rtP m (k + 1) % 4 < 4 * q + 1 := lN_lt63 (by omega) (by omega)
      have eO : lN (2 * q) ||| 1 = lN (2 * q + 1) := by
        have := g_or (k := 1) (p := 2) (a := 1) (b := q) rfl (by decide) (by omega)
        rw [Nat.mul_comm 2 q]; exact this
      refine j_lload (p2 := 156) dM_root_154 rfl rfl ?_
      refine j_lload (p2 := 158) dM_root_156 rfl rfl ?_
      refine j_lcmp_lt (p1 := 159) (p2 := 162) (tg := 175) dM_root_158 rfl dM_root_159 rfl (by decide) (fun h158 => ?_) (fun h158 => ?_)
      · refine j_iinc (p2 := 178) (lv' := [(5, _), (7, _), (8, _), (10, _), (12, _)]) dM_root_175 rfl (Nat.le_of_ble_eq_true rfl) rfl ⟨rfl, rfl, rfl, rfl, rfl, trivial⟩ ?_
        refine j_goto (p2 := 97) dM_root_178 (by decide) ?_
        refine J.loc (lv' := [(5, _), (7, _), (8, _), (10, _), (12, _)]) ⟨rfl, rfl, rfl, rfl, rfl, trivial⟩ ?_
        first | (have g := (hlt.mp h158); obtain ⟨a1, a2⟩ := s2 (by omega); exact ih (k + 1) _ _ (by omega) (by omega) a1 a2 (by omega)) | (have g : ¬ 4 * rest + rtP m (k + 1) % 4 < 4 * q + 1 := (fun z => h158 (hlt.mpr z)); obtain ⟨a1, a2⟩ := s1 (by omega); rw [eO, lN_sub (by omega)]; exact ih (k + 1) _ _ (by omega) (by omega) a1 a2 hq2)
      · refine j_lload (p2 := 164) dM_root_162 rfl rfl ?_
        refine j_lload (p2 := 166) dM_root_164 rfl rfl ?_
        refine j_lsub (p2 := 167) dM_root_166 rfl ?_
        refine j_lstore (p2 := 169) (lv' := [(5, _), (7, _), (8, _), (10, _), (12, _)]) dM_root_167 rfl (Nat.le_of_ble_eq_true rfl) ⟨rfl, rfl, rfl, rfl, rfl, trivial⟩ ?_
        refine j_lload (p2 := 171) dM_root_169 rfl rfl ?_
        refine j_lconst (v := 1) (p2 := 172) dM_root_171 rfl rfl ?_
        refine j_lor (p2 := 173) dM_root_172 rfl ?_
        refine j_lstore (p2 := 175) (lv' := [(5, _), (7, _), (8, _), (10, _), (12, _)]) dM_root_173 rfl (Nat.le_of_ble_eq_true rfl) ⟨rfl, rfl, rfl, rfl, rfl, trivial⟩ ?_
        refine j_iinc (p2 := 178) (lv' := [(5, _), (7, _), (8, _), (10, _), (12, _)]) dM_root_175 rfl (Nat.le_of_ble_eq_true rfl) rfl ⟨rfl, rfl, rfl, rfl, rfl, trivial⟩ ?_
        refine j_goto (p2 := 97) dM_root_178 (by decide) ?_
        refine J.loc (lv' := [(5, _), (7, _), (8, _), (10, _), (12, _)]) ⟨rfl, rfl, rfl, rfl, rfl, trivial⟩ ?_
        first | (have g := (hlt.mp h158); obtain ⟨a1, a2⟩ := s2 (by omega); exact ih (k + 1) _ _ (by omega) (by omega) a1 a2 (by omega)) | (have g : ¬ 4 * rest + rtP m (k + 1) % 4 < 4 * q + 1 := (fun z => h158 (hlt.mpr z)); obtain ⟨a1, a2⟩ := s1 (by omega); rw [eO, lN_sub (by omega)]; exact ih (k + 1) _ _ (by omega) (by omega) a1 a2 hq2)
    refine j_iload (p2 := 99) dM_root_97 rfl rfl ?_
    refine j_bipush (v := 54) (p2 := 101) dM_root_99 rfl rfl ?_
    refine j_icmp_ge (p2 := 104) (tg := 181) dM_root_101 rfl (by decide) (by constructor <;> omega) (by constructor <;> omega) (fun h101 => ?_) (fun h101 => ?_)
    · refine j_lload (p2 := 183) dM_root_181 rfl rfl ?_
      refine j_iconst (p2 := 184) dM_root_183 rfl ?_
      refine j_lshr (p2 := 185) dM_root_184 rfl ?_
      refine j_lload (p2 := 187) dM_root_185 rfl rfl ?_
      refine j_lconst (v := 1) (p2 := 188) dM_root_187 rfl rfl ?_
      refine j_land (p2 := 189) dM_root_188 rfl ?_
      refine j_ladd (p2 := 190) dM_root_189 rfl ?_
      refine j_lstore (p2 := 192) (lv' := [(7, _), (12, _)]) dM_root_190 rfl (Nat.le_of_ble_eq_true rfl) ⟨rfl, rfl, trivial⟩ ?_
      refine j_iload (p2 := 194) dM_root_192 rfl rfl ?_
      refine j_iconst (p2 := 195) dM_root_194 rfl ?_
      refine j_idiv (p2 := 196) dM_root_195 rfl ⟨by omega, by omega⟩ (by decide) ?_
      refine j_bipush (v := 27) (p2 := 198) dM_root_196 rfl rfl ?_
      refine j_isub (p2 := 199) dM_root_198 rfl ?_
      refine j_iconst (p2 := 200) dM_root_199 rfl ?_
      refine j_iadd (p2 := 201) dM_root_200 rfl ?_
      refine j_istore (p2 := 203) (lv' := [(12, _), (14, _)]) dM_root_201 rfl (Nat.le_of_ble_eq_true rfl) ⟨rfl, rfl, trivial⟩ ?_
      refine j_lload (p2 := 205) dM_root_203 rfl rfl ?_
      refine j_iload (p2 := 207) dM_root_205 rfl rfl ?_
      refine j_callS (m' := mM_scaled) (As := [_, _]) (p2 := 210) dM_root_207 rfl ml_M_260 ok_mM_scaled sm_mM_scaled rfl rfl (Nat.le_of_ble_eq_true rfl) (Nat.le_of_ble_eq_true rfl) ⟨(Nat.le_of_ble_eq_true rfl), (Nat.le_of_ble_eq_true rfl)⟩ ?_
      have e5 : jlshr (lN q) 1 + (lN q &&& 1) = lN ((q + 1) / 2) := by
        rw [show (1 : Int) = ((1 : Nat) : Int) from rfl, jl_shr (by omega) (by decide), g_and1 (by omega), lN_add, Nat.pow_one]
        congr 1; omega
      rw [e5, jidiv_2 (by omega)]
      refine cM_scaled (by omega) (by omega) ?_
      refine (?_ : J _ _ _ [vD _] _ _)
      refine j_dreturn dM_root_210 rfl (by
        have hk54 : k = 54 := (by omega)
        subst hk54
        rw [rtP_54] at h3
        have hs : FP.Core.sqrtFloor (m * 2 ^ 54) = q := sqF_eq (by omega) (by have e6 : (q + 1) * (q + 1) = q * q + 2 * q + 1 := (by rw [Nat.add_mul, Nat.mul_add]; omega); omega)
        rw [hs] at hQ
        have e7 : h - 27 + 1 = h - 26 := (by omega)
        rw [e7]; exact hQ)
    · refine j_iload (p2 := 106) dM_root_104 rfl rfl ?_
      refine j_bipush (v := 27) (p2 := 108) dM_root_106 rfl rfl ?_
      refine j_icmp_ge (p2 := 111) (tg := 128) dM_root_108 rfl (by decide) (by constructor <;> omega) (by constructor <;> omega) (fun h108 => ?_) (fun h108 => ?_)
      · refine j_lconst (v := 0) (p2 := 129) dM_root_128 rfl rfl ?_
        refine j_lstore (p2 := 131) (lv' := [(5, _), (7, _), (8, _), (10, _), (12, _), (13, _)]) dM_root_129 rfl (Nat.le_of_ble_eq_true rfl) ⟨rfl, rfl, rfl, rfl, rfl, rfl, trivial⟩ ?_
        refine j_lload (p2 := 133) dM_root_131 rfl rfl ?_
        refine j_iconst (p2 := 134) dM_root_133 rfl ?_
        refine j_lshl (p2 := 135) dM_root_134 rfl ?_
        refine j_lload (p2 := 137) dM_root_135 rfl rfl ?_
        refine j_lor (p2 := 138) dM_root_137 rfl ?_
        refine j_lstore (p2 := 140) (lv' := [(5, _), (7, _), (8, _), (10, _), (12, _)]) dM_root_138 rfl (Nat.le_of_ble_eq_true rfl) ⟨rfl, rfl, rfl, rfl, rfl, trivial⟩ ?_
        refine j_lload (p2 := 142) dM_root_140 rfl rfl ?_
        refine j_iconst (p2 := 143) dM_root_142 rfl ?_
        refine j_lshl (p2 := 144) dM_root_143 rfl ?_
        refine j_lconst (v := 1) (p2 := 145) dM_root_144 rfl rfl ?_
        refine j_lor (p2 := 146) dM_root_145 rfl ?_
        refine j_lstore (p2 := 148) (lv' := [(5, _), (7, _), (8, _), (10, _), (12, _), (15, _)]) dM_root_146 rfl (Nat.le_of_ble_eq_true rfl) ⟨rfl, rfl, rfl, rfl, rfl, rfl, trivial⟩ ?_
        refine j_lload (p2 := 150) dM_root_148 rfl rfl ?_
        refine j_iconst (p2 := 151) dM_root_150 rfl ?_
        refine j_lshl (p2 := 152) dM_root_151 rfl ?_
        refine j_lstore (p2 := 154) (lv' := [(5, _), (7, _), (8, _), (10, _), (12, _), (15, _)]) dM_root_152 rfl (Nat.le_of_ble_eq_true rfl) ⟨rfl, rfl, rfl, rfl, rfl, rfl, trivial⟩ ?_
        refine J.loc (lv' := [(5, _), (7, _), (8, _), (10, _), (12, _), (15, _)]) ⟨rfl, rfl, rfl, rfl, rfl, rfl, trivial⟩ ?_
        have hk : k < 54 := by omega
        rw [eQ, eT, eR]
        first
          | (have e3 : lN (rest * 4) ||| (jlshr (lN m) (52 - 2 * (k : Int)) &&& 3) = lN (4 * rest + rtP m (k + 1) % 4) := by
               rw [show (52 : Int) - 2 * (k : Int) = ((52 - 2 * k : Nat) : Int) by omega, jl_shr (by omega) (by omega), ← rtP_lo (by omega)]
               have hb : rtP m (k + 1) < 2 ^ 64 := by rw [rtP_lo (by omega)]; exact Nat.lt_of_le_of_lt (Nat.div_le_self _ _) (by omega)
               have e4 : lN (rtP m (k + 1)) &&& 3 = lN (rtP m (k + 1) % 4) := g_mask (s := 2) (p := 4) rfl (by decide) hb
               rw [e4, g_or (k := 2) (p := 4) rfl (Nat.mod_lt _ (by decide)) (by omega), Nat.mul_comm rest 4]
             rw [e3]; exact go hk)
          | (have e3 : lN (rest * 4) ||| 0 = lN (4 * rest + rtP m (k + 1) % 4) := by
               rw [rtP_hi (by omega) hk]
               have := g_or (k := 2) (p := 4) (a := 0) (b := rest) rfl (by decide) (by omega)
               rw [Nat.mul_comm 4 rest]; exact this
             rw [e3]; exact go hk)
      · refine j_lload (p2 := 113) dM_root_111 rfl rfl ?_
        refine j_bipush (v := 52) (p2 := 115) dM_root_113 rfl rfl ?_
        refine j_iconst (p2 := 116) dM_root_115 rfl ?_
        refine j_iload (p2 := 118) dM_root_116 rfl rfl ?_
        refine j_imul (p2 := 119) dM_root_118 rfl ?_
        refine j_isub (p2 := 120) dM_root_119 rfl ?_
        refine j_lshr (p2 := 121) dM_root_120 rfl ?_
        refine j_ldc2 (p2 := 124) dM_root_121 rfl cw_M_258 ?_
        refine j_land (p2 := 125) dM_root_124 rfl ?_
        refine j_goto (p2 := 129) dM_root_125 (by decide) ?_
        refine j_lstore (p2 := 131) (lv' := [(5, _), (7, _), (8, _), (10, _), (12, _), (13, _)]) dM_root_129 rfl (Nat.le_of_ble_eq_true rfl) ⟨rfl, rfl, rfl, rfl, rfl, rfl, trivial⟩ ?_
        refine j_lload (p2 := 133) dM_root_131 rfl rfl ?_
        refine j_iconst (p2 := 134) dM_root_133 rfl ?_
        refine j_lshl (p2 := 135) dM_root_134 rfl ?_
        refine j_lload (p2 := 137) dM_root_135 rfl rfl ?_
        refine j_lor (p2 := 138) dM_root_137 rfl ?_
        refine j_lstore (p2 := 140) (lv' := [(5, _), (7, _), (8, _), (10, _), (12, _)]) dM_root_138 rfl (Nat.le_of_ble_eq_true rfl) ⟨rfl, rfl, rfl, rfl, rfl, trivial⟩ ?_
        refine j_lload (p2 := 142) dM_root_140 rfl rfl ?_
        refine j_iconst (p2 := 143) dM_root_142 rfl ?_
        refine j_lshl (p2 := 144) dM_root_143 rfl ?_
        refine j_lconst (v := 1) (p2 := 145) dM_root_144 rfl rfl ?_
        refine j_lor (p2 := 146) dM_root_145 rfl ?_
        refine j_lstore (p2 := 148) (lv' := [(5, _), (7, _), (8, _), (10, _), (12, _), (15, _)]) dM_root_146 rfl (Nat.le_of_ble_eq_true rfl) ⟨rfl, rfl, rfl, rfl, rfl, rfl, trivial⟩ ?_
        refine j_lload (p2 := 150) dM_root_148 rfl rfl ?_
        refine j_iconst (p2 := 151) dM_root_150 rfl ?_
        refine j_lshl (p2 := 152) dM_root_151 rfl ?_
        refine j_lstore (p2 := 154) (lv' := [(5, _), (7, _), (8, _), (10, _), (12, _), (15, _)]) dM_root_152 rfl (Nat.le_of_ble_eq_true rfl) ⟨rfl, rfl, rfl, rfl, rfl, rfl, trivial⟩ ?_
        refine J.loc (lv' := [(5, _), (7, _), (8, _), (10, _), (12, _), (15, _)]) ⟨rfl, rfl, rfl, rfl, rfl, rfl, trivial⟩ ?_
        have hk : k < 54 := by omega
        rw [eQ, eT, eR]
        first
          | (have e3 : lN (rest * 4) ||| (jlshr (lN m) (52 - 2 * (k : Int)) &&& 3) = lN (4 * rest + rtP m (k + 1) % 4) := by
               rw [show (52 : Int) - 2 * (k : Int) = ((52 - 2 * k : Nat) : Int) by omega, jl_shr (by omega) (by omega), ← rtP_lo (by omega)]
               have hb : rtP m (k + 1) < 2 ^ 64 := by rw [rtP_lo (by omega)]; exact Nat.lt_of_le_of_lt (Nat.div_le_self _ _) (by omega)
               have e4 : lN (rtP m (k + 1)) &&& 3 = lN (rtP m (k + 1) % 4) := g_mask (s := 2) (p := 4) rfl (by decide) hb
               rw [e4, g_or (k := 2) (p := 4) rfl (Nat.mod_lt _ (by decide)) (by omega), Nat.mul_comm rest 4]
             rw [e3]; exact go hk)
          | (have e3 : lN (rest * 4) ||| 0 = lN (4 * rest + rtP m (k + 1) % 4) := by
               rw [rtP_hi (by omega) hk]
               have := g_or (k := 2) (p := 4) (a := 0) (b := rest) rfl (by decide) (by omega)
               rw [Nat.mul_comm 4 rest]; exact this
             rw [e3]; exact go hk)
end RT2
