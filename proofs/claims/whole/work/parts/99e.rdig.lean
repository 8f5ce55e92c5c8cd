/-! ===== the reference: digest ===== -/
def mxH (σ : Hp) (h : Int64) : Hp := wL σ 69 (fup (hL σ 69) 60 h)
section RDIG
variable {σ : Hp} {Q : Option PV → Hp → Prop} {N S : Nat}
theorem mx_mx (g h : Int64) : wL (mxH σ g) 69 (fup (hL (mxH σ g) 69) 60 h) = mxH σ h := by
  unfold mxH
  rw [wL_wL]
  congr 1
  show fup (fup (hL σ 69) 60 g) 60 h = _
  funext k
  unfold fup
  by_cases c : k = 60
  · rw [if_pos c, if_pos c]
  · rw [if_neg c, if_neg c, if_neg c]
theorem cM_mixH {g v : Int64} (hQ : Q none (mxH σ (31 * g + v))) : Sp mM_mix [vR 69, vL v] (mxH σ g) Q := by
  refine cM_mix ?_
  have e : hL (mxH σ g) 69 60 = g := by show fup (hL σ 69) 60 g 60 = g; exact fup_s _ _ _
  rw [e, mx_mx]
  exact hQ
theorem cM_digest (hN : hI σ 69 0 = N ∧ N ≤ 20) (hmo : inR (hI σ 69 11)) (hS : hI σ 69 37 = S ∧ S ≤ 6) (hl : ∀ s : Int, 0 ≤ s → s < S → 0 ≤ hI σ 101 s ∧ hI σ 101 s ≤ 120) (ht : ∀ k : Int, 0 ≤ k → k < 120 → inR (hI σ 73 k)) (hn : ∀ m : Int, 0 ≤ m → m < N → vf_n64 (hD σ 71 m) ∧ vf_n64 (hD σ 74 m)) (hr : ¬ hI σ 69 11 = 0 → ∀ m : Int, 0 ≤ m → m < N → vf_n64 (hD σ 82 m) ∧ vf_n32 (hF σ 83 m)) (hb : ∀ k : Int, 0 ≤ k → k < 720 → vf_n64 (hD σ 102 k))
    (hQ : ∀ h, h = wNs (wSt (hI σ 101) (fun j => (hD σ 102 j).toInt64)) (wNs (wMo (hI σ 70) (fun m => (hD σ 71 m).toInt64) (hI σ 72) (hI σ 73) (fun m => (hD σ 74 m).toInt64) (decide (¬ hI σ 69 11 = 0)) (hD σ 82) (hF σ 83) (hI σ 87)) (31 * (31 * 47 + i6L (hI σ 69 11)) + i6L (hI σ 69 12)) N) S → Q (some (vL h)) (mxH σ h)) : Sp mM_digest [vR 69] σ Q := by
  obtain ⟨hN, hN2⟩ := hN
  obtain ⟨M, hM⟩ : ∃ M, M = wMo (hI σ 70) (fun m => (hD σ 71 m).toInt64) (hI σ 72) (hI σ 73) (fun m => (hD σ 74 m).toInt64) (decide (¬ hI σ 69 11 = 0)) (hD σ 82) (hF σ 83) (hI σ 87) := ⟨_, rfl⟩
  obtain ⟨T, hT⟩ : ∃ T, T = wSt (hI σ 101) (fun j => (hD σ 102 j).toInt64) := ⟨_, rfl⟩
  obtain ⟨h0, hh0⟩ : ∃ h0, h0 = 31 * (31 * 47 + i6L (hI σ 69 11)) + i6L (hI σ 69 12) := ⟨_, rfl⟩
  rw [← hM, ← hT, ← hh0] at hQ
  have hQ := hQ _ rfl
  have eN : ∀ g, hI (mxH σ g) 69 0 = N := fun _ => hN
  have eS : ∀ g, hI (mxH σ g) 69 37 = S := fun _ => hS.1
  have eL : ∀ g (i : Int), hI (mxH σ g) 101 i = hI σ 101 i := fun _ _ => rfl
  have eU : ∀ g (i : Int), hI (mxH σ g) 73 i = hI σ 73 i := fun _ _ => rfl
  have eM : ∀ g, hI (mxH σ g) 69 11 = hI σ 69 11 := fun _ => rfl
  have e60 : ∀ g, hL (mxH σ g) 69 60 = g := fun g => by show fup (hL σ 69) 60 g 60 = g; exact fup_s _ _ _
  have strips : ∀ g, Q (some (vL (wNs T g S))) (mxH σ (wNs T g S)) → ∀ (n i : Nat), i ≤ S → S + 1 ≤ i + n → J mM_digest 178 [(0, vR 69), (1, vI i)] [] (mxH σ (wNs T g i)) Q := by
    intro g hq n
    induction n with
    | zero => intro i h1 h2; exact absurd h2 (by omega)
    | succ n ih =>
      intro i h1 h2
      have ih2 : i < S → J mM_digest 178 [(0, vR 69), (1, vI (i + 1))] [] (mxH σ (T (wNs T g i) i)) Q := fun h => ih (i + 1) (by omega) (by omega)
      have hli : i < S → 0 ≤ hI σ 101 i ∧ hI σ 101 i ≤ 120 := fun h => hl i (by omega) (by omega)
      obtain ⟨G, hG⟩ : ∃ G, G = wNs T g i := ⟨_, rfl⟩
      have inner : i < S → ∀ (k j : Nat), j ≤ (hI σ 101 i).toNat → (hI σ 101 i).toNat + 1 ≤ j + k → J mM_digest 199 [(0, vR 69), (1, vI i), (2, vI j)] [] (mxH σ (wSm (fun j => (hD σ 102 j).toInt64) i (31 * G + i6L (hI σ 101 i)) j)) Q := by
        intro hi k
        have hli := hli hi
        induction k with
        | zero => intro j a1 a2; exact absurd a2 (by omega)
        | succ k ihk =>
          intro j a1 a2
          have nx : j < (hI σ 101 i).toNat → J mM_digest 199 [(0, vR 69), (1, vI i), (2, vI (j + 1))] [] (mxH σ (31 * wSm (fun j => (hD σ 102 j).toInt64) i (31 * G + i6L (hI σ 101 i)) j + (hD σ 102 (120 * i + j)).toInt64)) Q := fun h => ihk (j + 1) (by omega) (by omega)
          have out : j = (hI σ 101 i).toNat → J mM_digest 178 [(0, vR 69), (1, vI (i + 1))] [] (mxH σ (wSm (fun j => (hD σ 102 j).toInt64) i (31 * G + i6L (hI σ 101 i)) j)) Q := fun h => by
            have z := ih2 hi
            rw [← hG, hT] at z
            rw [h]
            exact z
          generalize wSm (fun j => (hD σ 102 j).toInt64) i (31 * G + i6L (hI σ 101 i)) j = V at *
          refine j_iload_n (p2 := 200) dM_digest_199 rfl rfl ?_
          refine j_aload_n (p2 := 201) dM_digest_200 rfl rfl ?_
          refine j_getR (p2 := 204) dM_digest_201 rfl fa_M_110 ly_69 rfl ?_
          refine j_iload_n (p2 := 205) dM_digest_204 rfl rfl ?_
          refine j_iald (p2 := 206) dM_digest_205 rfl ly_101 (by decide) (by omega) (by omega) ?_
          refine j_icmp_ge (p2 := 209) (tg := 233) dM_digest_206 rfl (by decide) (by constructor <;> omega) (by rw [eL]; constructor <;> omega) (fun h206 => ?_) (fun h206 => ?_)
          · refine j_iinc (p2 := 236) (lv' := [(0, _), (1, _)]) dM_digest_233 rfl (Nat.le_of_ble_eq_true rfl) rfl ⟨rfl, rfl, trivial⟩ ?_
            refine j_goto (p2 := 178) dM_digest_236 (by decide) ?_
            refine J.loc (lv' := [(0, _), (1, _)]) ⟨rfl, rfl, trivial⟩ ?_
            rw [eL] at h206
            exact out (by omega)
          · refine j_aload_n (p2 := 210) dM_digest_209 rfl rfl ?_
            refine j_aload_n (p2 := 211) dM_digest_210 rfl rfl ?_
            refine j_getR (p2 := 214) dM_digest_211 rfl fa_M_113 ly_69 rfl ?_
            refine j_bipush (v := 120) (p2 := 216) dM_digest_214 rfl rfl ?_
            refine j_iload_n (p2 := 217) dM_digest_216 rfl rfl ?_
            refine j_imul (p2 := 218) dM_digest_217 rfl ?_
            refine j_iload_n (p2 := 219) dM_digest_218 rfl rfl ?_
            refine j_iadd (p2 := 220) dM_digest_219 rfl ?_
            refine j_dald (p2 := 221) dM_digest_220 rfl ly_102 (by decide) (by rw [eL] at h206; omega) (by rw [eL] at h206; omega) ?_
            refine j_callS (m' := mJD_doubleToLongBits) (As := [_]) (p2 := 224) dM_digest_221 rfl ml_M_250 ok_mJD_doubleToLongBits sm_mJD_doubleToLongBits rfl rfl (Nat.le_of_ble_eq_true rfl) (Nat.le_of_ble_eq_true rfl) ⟨(Nat.le_of_ble_eq_true rfl), (Nat.le_of_ble_eq_true rfl)⟩ ?_
            refine cJD_doubleToLongBits (hb _ (by rw [eL] at h206; omega) (by rw [eL] at h206; omega)) ?_
            refine j_callV (m' := mM_mix) (As := [_]) (p2 := 227) dM_digest_224 rfl ml_M_389 ok_mM_mix im_mM_mix se_mM_mix rfl rfl (Nat.le_of_ble_eq_true rfl) ly_69 rfl (Nat.le_of_ble_eq_true rfl) ⟨(Nat.le_of_ble_eq_true rfl), (Nat.le_of_ble_eq_true rfl)⟩ ?_
            refine cM_mixH ?_
            refine j_iinc (p2 := 230) (lv' := [(0, _), (1, _), (2, _)]) dM_digest_227 rfl (Nat.le_of_ble_eq_true rfl) rfl ⟨rfl, rfl, rfl, trivial⟩ ?_
            refine j_goto (p2 := 199) dM_digest_230 (by decide) ?_
            refine J.loc (lv' := [(0, _), (1, _), (2, _)]) ⟨rfl, rfl, rfl, trivial⟩ ?_
            rw [eL] at h206
            exact nx (by omega)
      rw [← hG]
      refine j_iload_n (p2 := 179) dM_digest_178 rfl rfl ?_
      refine j_aload_n (p2 := 180) dM_digest_179 rfl rfl ?_
      refine j_getIk (p2 := 183) dM_digest_180 rfl fa_M_332 ly_69 rfl (ki := 37) rfl ?_
      refine j_icmp_ge (p2 := 186) (tg := 239) dM_digest_183 rfl (by decide) (by constructor <;> omega) (by rw [eS]; constructor <;> omega) (fun h183 => ?_) (fun h183 => ?_)
      · refine j_aload_n (p2 := 240) dM_digest_239 rfl rfl ?_
        refine j_getLk (p2 := 243) dM_digest_240 rfl fa_M_383 ly_69 rfl (ki := 60) rfl ?_
        refine j_lreturn dM_digest_243 rfl (by rw [eS] at h183; have e : i = S := (by omega); subst e; rw [e60]; rw [hG]; exact hq)
      · refine j_aload_n (p2 := 187) dM_digest_186 rfl rfl ?_
        refine j_aload_n (p2 := 188) dM_digest_187 rfl rfl ?_
        refine j_getR (p2 := 191) dM_digest_188 rfl fa_M_110 ly_69 rfl ?_
        refine j_iload_n (p2 := 192) dM_digest_191 rfl rfl ?_
        refine j_iald (p2 := 193) dM_digest_192 rfl ly_101 (by decide) (by rw [eS] at h183; omega) (by rw [eS] at h183; omega) ?_
        refine j_i2l (p2 := 194) dM_digest_193 rfl ?_
        refine j_callV (m' := mM_mix) (As := [_]) (p2 := 197) dM_digest_194 rfl ml_M_389 ok_mM_mix im_mM_mix se_mM_mix rfl rfl (Nat.le_of_ble_eq_true rfl) ly_69 rfl (Nat.le_of_ble_eq_true rfl) ⟨(Nat.le_of_ble_eq_true rfl), (Nat.le_of_ble_eq_true rfl)⟩ ?_
        refine cM_mixH ?_
        refine j_iconst (p2 := 198) dM_digest_197 rfl ?_
        refine j_istore_n (p2 := 199) (lv' := [(0, _), (1, _), (2, _)]) dM_digest_198 rfl (Nat.le_of_ble_eq_true rfl) ⟨rfl, rfl, rfl, trivial⟩ ?_
        refine J.loc (lv' := [(0, _), (1, _), (2, _)]) ⟨rfl, rfl, rfl, trivial⟩ ?_
        rw [eS] at h183
        exact inner (by omega) ((hI σ 101 i).toNat + 1) 0 (by omega) (by omega)
  have mods : ∀ (n i : Nat), i ≤ N → N + 1 ≤ i + n → J mM_digest 27 [(0, vR 69), (1, vI i)] [] (mxH σ (wNs M h0 i)) Q := by
    intro n
    induction n with
    | zero => intro i h1 h2; exact absurd h2 (by omega)
    | succ n ih =>
      intro i h1 h2
      have ih2 : i < N → J mM_digest 27 [(0, vR 69), (1, vI (i + 1))] [] (mxH σ (M (wNs M h0 i) i)) Q := fun h => ih (i + 1) (by omega) (by omega)
      have hni : i < N → vf_n64 (hD σ 71 i) ∧ vf_n64 (hD σ 74 i) := fun h => hn i (by omega) (by omega)
      have hout : i = N → Q (some (vL (wNs T (wNs M h0 i) S))) (mxH σ (wNs T (wNs M h0 i) S)) := fun h => by rw [h]; exact hQ
      obtain ⟨G, hG⟩ : ∃ G, G = wNs M h0 i := ⟨_, rfl⟩
      rw [← hG] at ih2 hout ⊢
      have inner : i < N → ∀ (k j : Nat), j ≤ 6 → 7 ≤ j + k → J mM_digest 61 [(0, vR 69), (1, vI i), (2, vI j)] [] (mxH σ (wIn (hI σ 72) (hI σ 73) i (31 * (31 * G + i6L (hI σ 70 i)) + (hD σ 71 i).toInt64) j)) Q := by
        intro hi k
        have ih2 := ih2 hi
        have hni := hni hi
        induction k with
        | zero => intro j a1 a2; exact absurd a2 (by omega)
        | succ k ihk =>
          intro j a1 a2
          have nx : j < 6 → ∀ x : Int64, x = (if hI σ 73 (6 * i + j) = 0 then 0 else 1) → J mM_digest 61 [(0, vR 69), (1, vI i), (2, vI (j + 1))] [] (mxH σ (31 * (31 * wIn (hI σ 72) (hI σ 73) i (31 * (31 * G + i6L (hI σ 70 i)) + (hD σ 71 i).toInt64) j + i6L (hI σ 72 (6 * i + j))) + x)) Q := fun h x hx => by
            rw [hx]
            exact ihk (j + 1) (by omega) (by omega)
          have at112 : j = 6 → J mM_digest 112 [(0, vR 69), (1, vI i)] [] (mxH σ (wIn (hI σ 72) (hI σ 73) i (31 * (31 * G + i6L (hI σ 70 i)) + (hD σ 71 i).toInt64) j)) Q := fun hj => by
            subst hj
            rw [hM] at ih2
            unfold wMo at ih2
            have hr := hr
            generalize wIn (hI σ 72) (hI σ 73) i (31 * (31 * G + i6L (hI σ 70 i)) + (hD σ 71 i).toInt64) 6 = V at *
            refine j_aload_n (p2 := 113) dM_digest_112 rfl rfl ?_
            refine j_aload_n (p2 := 114) dM_digest_113 rfl rfl ?_
            refine j_getR (p2 := 117) dM_digest_114 rfl fa_M_24 ly_69 rfl ?_
            refine j_iload_n (p2 := 118) dM_digest_117 rfl rfl ?_
            refine j_dald (p2 := 119) dM_digest_118 rfl ly_74 (by decide) (by omega) (by omega) ?_
            refine j_callS (m' := mJD_doubleToLongBits) (As := [_]) (p2 := 122) dM_digest_119 rfl ml_M_250 ok_mJD_doubleToLongBits sm_mJD_doubleToLongBits rfl rfl (Nat.le_of_ble_eq_true rfl) (Nat.le_of_ble_eq_true rfl) ⟨(Nat.le_of_ble_eq_true rfl), (Nat.le_of_ble_eq_true rfl)⟩ ?_
            refine cJD_doubleToLongBits hni.2 ?_
            refine j_callV (m' := mM_mix) (As := [_]) (p2 := 125) dM_digest_122 rfl ml_M_389 ok_mM_mix im_mM_mix se_mM_mix rfl rfl (Nat.le_of_ble_eq_true rfl) ly_69 rfl (Nat.le_of_ble_eq_true rfl) ⟨(Nat.le_of_ble_eq_true rfl), (Nat.le_of_ble_eq_true rfl)⟩ ?_
            refine cM_mixH ?_
            refine j_aload_n (p2 := 126) dM_digest_125 rfl rfl ?_
            refine j_getIk (p2 := 129) dM_digest_126 rfl fa_M_195 ly_69 rfl (ki := 11) rfl ?_
            refine j_if_eq (p2 := 132) (tg := 170) dM_digest_129 rfl (by decide) (by rw [eM]; exact hmo) (fun h129 => ?_) (fun h129 => ?_)
            · refine j_iinc (p2 := 173) (lv' := [(0, _), (1, _)]) dM_digest_170 rfl (Nat.le_of_ble_eq_true rfl) rfl ⟨rfl, rfl, trivial⟩ ?_
              refine j_goto (p2 := 27) dM_digest_173 (by decide) ?_
              refine J.loc (lv' := [(0, _), (1, _)]) ⟨rfl, rfl, trivial⟩ ?_
              first
                | (rw [decide_eq_true h129, if_pos rfl] at ih2
                   exact ih2)
                | (rw [eM] at h129
                   rw [decide_eq_false (fun q => q h129), if_neg (by decide)] at ih2
                   exact ih2)
            · refine j_aload_n (p2 := 133) dM_digest_132 rfl rfl ?_
              refine j_aload_n (p2 := 134) dM_digest_133 rfl rfl ?_
              refine j_getR (p2 := 137) dM_digest_134 rfl fa_M_53 ly_69 rfl ?_
              refine j_iload_n (p2 := 138) dM_digest_137 rfl rfl ?_
              refine j_dald (p2 := 139) dM_digest_138 rfl ly_82 (by decide) (by omega) (by omega) ?_
              refine j_callS (m' := mJD_doubleToLongBits) (As := [_]) (p2 := 142) dM_digest_139 rfl ml_M_250 ok_mJD_doubleToLongBits sm_mJD_doubleToLongBits rfl rfl (Nat.le_of_ble_eq_true rfl) (Nat.le_of_ble_eq_true rfl) ⟨(Nat.le_of_ble_eq_true rfl), (Nat.le_of_ble_eq_true rfl)⟩ ?_
              rw [eM] at h129
              have hri := hr h129 i (by omega) (by omega)
              refine cJD_doubleToLongBits hri.1 ?_
              refine j_callV (m' := mM_mix) (As := [_]) (p2 := 145) dM_digest_142 rfl ml_M_389 ok_mM_mix im_mM_mix se_mM_mix rfl rfl (Nat.le_of_ble_eq_true rfl) ly_69 rfl (Nat.le_of_ble_eq_true rfl) ⟨(Nat.le_of_ble_eq_true rfl), (Nat.le_of_ble_eq_true rfl)⟩ ?_
              refine cM_mixH ?_
              refine j_aload_n (p2 := 146) dM_digest_145 rfl rfl ?_
              refine j_aload_n (p2 := 147) dM_digest_146 rfl rfl ?_
              refine j_getR (p2 := 150) dM_digest_147 rfl fa_M_56 ly_69 rfl ?_
              refine j_iload_n (p2 := 151) dM_digest_150 rfl rfl ?_
              refine j_fald (p2 := 152) dM_digest_151 rfl ly_83 (by decide) (by omega) (by omega) ?_
              refine j_callS (m' := mJF_floatToIntBits) (As := [_]) (p2 := 155) dM_digest_152 rfl ml_M_353 ok_mJF_floatToIntBits sm_mJF_floatToIntBits rfl rfl (Nat.le_of_ble_eq_true rfl) (Nat.le_of_ble_eq_true rfl) ⟨(Nat.le_of_ble_eq_true rfl), (Nat.le_of_ble_eq_true rfl)⟩ ?_
              refine cJF_floatToIntBits hri.2 ?_
              refine j_i2l (p2 := 156) dM_digest_155 rfl ?_
              refine j_callV (m' := mM_mix) (As := [_]) (p2 := 159) dM_digest_156 rfl ml_M_389 ok_mM_mix im_mM_mix se_mM_mix rfl rfl (Nat.le_of_ble_eq_true rfl) ly_69 rfl (Nat.le_of_ble_eq_true rfl) ⟨(Nat.le_of_ble_eq_true rfl), (Nat.le_of_ble_eq_true rfl)⟩ ?_
              refine cM_mixH ?_
              refine j_aload_n (p2 := 160) dM_digest_159 rfl rfl ?_
              refine j_aload_n (p2 := 161) dM_digest_160 rfl rfl ?_
              refine j_getR (p2 := 164) dM_digest_161 rfl fa_M_68 ly_69 rfl ?_
              refine j_iload_n (p2 := 165) dM_digest_164 rfl rfl ?_
              refine j_iald (p2 := 166) dM_digest_165 rfl ly_87 (by decide) (by omega) (by omega) ?_
              refine j_i2l (p2 := 167) dM_digest_166 rfl ?_
              refine j_callV (m' := mM_mix) (As := [_]) (p2 := 170) dM_digest_167 rfl ml_M_389 ok_mM_mix im_mM_mix se_mM_mix rfl rfl (Nat.le_of_ble_eq_true rfl) ly_69 rfl (Nat.le_of_ble_eq_true rfl) ⟨(Nat.le_of_ble_eq_true rfl), (Nat.le_of_ble_eq_true rfl)⟩ ?_
              refine cM_mixH ?_
              refine j_iinc (p2 := 173) (lv' := [(0, _), (1, _)]) dM_digest_170 rfl (Nat.le_of_ble_eq_true rfl) rfl ⟨rfl, rfl, trivial⟩ ?_
              refine j_goto (p2 := 27) dM_digest_173 (by decide) ?_
              refine J.loc (lv' := [(0, _), (1, _)]) ⟨rfl, rfl, trivial⟩ ?_
              first
                | (rw [decide_eq_true h129, if_pos rfl] at ih2
                   exact ih2)
                | (rw [eM] at h129
                   rw [decide_eq_false (fun q => q h129), if_neg (by decide)] at ih2
                   exact ih2)
          generalize wIn (hI σ 72) (hI σ 73) i (31 * (31 * G + i6L (hI σ 70 i)) + (hD σ 71 i).toInt64) j = V at *
          refine j_iload_n (p2 := 62) dM_digest_61 rfl rfl ?_
          refine j_bipush (v := 6) (p2 := 64) dM_digest_62 rfl rfl ?_
          refine j_icmp_ge (p2 := 67) (tg := 112) dM_digest_64 rfl (by decide) (by constructor <;> omega) (by constructor <;> omega) (fun h64 => ?_) (fun h64 => ?_)
          · refine J.loc (lv' := [(0, _), (1, _)]) ⟨rfl, rfl, trivial⟩ ?_
            exact at112 (by omega)
          · refine j_aload_n (p2 := 68) dM_digest_67 rfl rfl ?_
            refine j_aload_n (p2 := 69) dM_digest_68 rfl rfl ?_
            refine j_getR (p2 := 72) dM_digest_69 rfl fa_M_17 ly_69 rfl ?_
            refine j_bipush (v := 6) (p2 := 74) dM_digest_72 rfl rfl ?_
            refine j_iload_n (p2 := 75) dM_digest_74 rfl rfl ?_
            refine j_imul (p2 := 76) dM_digest_75 rfl ?_
            refine j_iload_n (p2 := 77) dM_digest_76 rfl rfl ?_
            refine j_iadd (p2 := 78) dM_digest_77 rfl ?_
            refine j_iald (p2 := 79) dM_digest_78 rfl ly_72 (by decide) (by omega) (by omega) ?_
            refine j_i2l (p2 := 80) dM_digest_79 rfl ?_
            refine j_callV (m' := mM_mix) (As := [_]) (p2 := 83) dM_digest_80 rfl ml_M_389 ok_mM_mix im_mM_mix se_mM_mix rfl rfl (Nat.le_of_ble_eq_true rfl) ly_69 rfl (Nat.le_of_ble_eq_true rfl) ⟨(Nat.le_of_ble_eq_true rfl), (Nat.le_of_ble_eq_true rfl)⟩ ?_
            refine cM_mixH ?_
            refine j_aload_n (p2 := 84) dM_digest_83 rfl rfl ?_
            refine j_aload_n (p2 := 85) dM_digest_84 rfl rfl ?_
            refine j_getR (p2 := 88) dM_digest_85 rfl fa_M_20 ly_69 rfl ?_
            refine j_bipush (v := 6) (p2 := 90) dM_digest_88 rfl rfl ?_
            refine j_iload_n (p2 := 91) dM_digest_90 rfl rfl ?_
            refine j_imul (p2 := 92) dM_digest_91 rfl ?_
            refine j_iload_n (p2 := 93) dM_digest_92 rfl rfl ?_
            refine j_iadd (p2 := 94) dM_digest_93 rfl ?_
            refine j_zald (p2 := 95) dM_digest_94 rfl ly_73 (by decide) (by omega) (by omega) ?_
            refine j_if_eq (p2 := 98) (tg := 102) dM_digest_95 rfl (by decide) (by rw [eU]; exact ht _ (by omega) (by omega)) (fun h95 => ?_) (fun h95 => ?_)
            · refine j_lconst (v := 0) (p2 := 103) dM_digest_102 rfl rfl ?_
              refine j_callV (m' := mM_mix) (As := [_]) (p2 := 106) dM_digest_103 rfl ml_M_389 ok_mM_mix im_mM_mix se_mM_mix rfl rfl (Nat.le_of_ble_eq_true rfl) ly_69 rfl (Nat.le_of_ble_eq_true rfl) ⟨(Nat.le_of_ble_eq_true rfl), (Nat.le_of_ble_eq_true rfl)⟩ ?_
              refine cM_mixH ?_
              refine j_iinc (p2 := 109) (lv' := [(0, _), (1, _), (2, _)]) dM_digest_106 rfl (Nat.le_of_ble_eq_true rfl) rfl ⟨rfl, rfl, rfl, trivial⟩ ?_
              refine j_goto (p2 := 61) dM_digest_109 (by decide) ?_
              refine J.loc (lv' := [(0, _), (1, _), (2, _)]) ⟨rfl, rfl, rfl, trivial⟩ ?_
              rw [eU] at h95
              first
                | (have g : hI σ 73 (6 * i + j) = 0 := h95
                   exact nx (by omega) _ (if_pos g).symm)
                | (have g : ¬ hI σ 73 (6 * i + j) = 0 := h95
                   exact nx (by omega) _ (if_neg g).symm)
            · refine j_lconst (v := 1) (p2 := 99) dM_digest_98 rfl rfl ?_
              refine j_goto (p2 := 103) dM_digest_99 (by decide) ?_
              refine j_callV (m' := mM_mix) (As := [_]) (p2 := 106) dM_digest_103 rfl ml_M_389 ok_mM_mix im_mM_mix se_mM_mix rfl rfl (Nat.le_of_ble_eq_true rfl) ly_69 rfl (Nat.le_of_ble_eq_true rfl) ⟨(Nat.le_of_ble_eq_true rfl), (Nat.le_of_ble_eq_true rfl)⟩ ?_
              refine cM_mixH ?_
              refine j_iinc (p2 := 109) (lv' := [(0, _), (1, _), (2, _)]) dM_digest_106 rfl (Nat.le_of_ble_eq_true rfl) rfl ⟨rfl, rfl, rfl, trivial⟩ ?_
              refine j_goto (p2 := 61) dM_digest_109 (by decide) ?_
              refine J.loc (lv' := [(0, _), (1, _), (2, _)]) ⟨rfl, rfl, rfl, trivial⟩ ?_
              rw [eU] at h95
              first
                | (have g : hI σ 73 (6 * i + j) = 0 := h95
                   exact nx (by omega) _ (if_pos g).symm)
                | (have g : ¬ hI σ 73 (6 * i + j) = 0 := h95
                   exact nx (by omega) _ (if_neg g).symm)
      refine j_iload_n (p2 := 28) dM_digest_27 rfl rfl ?_
      refine j_aload_n (p2 := 29) dM_digest_28 rfl rfl ?_
      refine j_getIk (p2 := 32) dM_digest_29 rfl fa_M_158 ly_69 rfl (ki := 0) rfl ?_
      refine j_icmp_ge (p2 := 35) (tg := 176) dM_digest_32 rfl (by decide) (by constructor <;> omega) (by rw [eN]; constructor <;> omega) (fun h32 => ?_) (fun h32 => ?_)
      · refine J.loc (lv' := [(0, _)]) ⟨rfl, trivial⟩ ?_
        rw [eN] at h32
        refine j_iconst (p2 := 177) dM_digest_176 rfl ?_
        refine j_istore_n (p2 := 178) (lv' := [(0, _), (1, _)]) dM_digest_177 rfl (Nat.le_of_ble_eq_true rfl) ⟨rfl, rfl, trivial⟩ ?_
        refine J.loc (lv' := [(0, _), (1, _)]) ⟨rfl, rfl, trivial⟩ ?_
        exact strips G (hout (by omega)) (S + 1) 0 (by omega) (by omega)
      · refine j_aload_n (p2 := 36) dM_digest_35 rfl rfl ?_
        refine j_aload_n (p2 := 37) dM_digest_36 rfl rfl ?_
        refine j_getR (p2 := 40) dM_digest_37 rfl fa_M_7 ly_69 rfl ?_
        refine j_iload_n (p2 := 41) dM_digest_40 rfl rfl ?_
        refine j_iald (p2 := 42) dM_digest_41 rfl ly_70 (by decide) (by rw [eN] at h32; omega) (by rw [eN] at h32; omega) ?_
        refine j_i2l (p2 := 43) dM_digest_42 rfl ?_
        refine j_callV (m' := mM_mix) (As := [_]) (p2 := 46) dM_digest_43 rfl ml_M_389 ok_mM_mix im_mM_mix se_mM_mix rfl rfl (Nat.le_of_ble_eq_true rfl) ly_69 rfl (Nat.le_of_ble_eq_true rfl) ⟨(Nat.le_of_ble_eq_true rfl), (Nat.le_of_ble_eq_true rfl)⟩ ?_
        refine cM_mixH ?_
        refine j_aload_n (p2 := 47) dM_digest_46 rfl rfl ?_
        refine j_aload_n (p2 := 48) dM_digest_47 rfl rfl ?_
        refine j_getR (p2 := 51) dM_digest_48 rfl fa_M_13 ly_69 rfl ?_
        refine j_iload_n (p2 := 52) dM_digest_51 rfl rfl ?_
        refine j_dald (p2 := 53) dM_digest_52 rfl ly_71 (by decide) (by rw [eN] at h32; omega) (by rw [eN] at h32; omega) ?_
        refine j_callS (m' := mJD_doubleToLongBits) (As := [_]) (p2 := 56) dM_digest_53 rfl ml_M_250 ok_mJD_doubleToLongBits sm_mJD_doubleToLongBits rfl rfl (Nat.le_of_ble_eq_true rfl) (Nat.le_of_ble_eq_true rfl) ⟨(Nat.le_of_ble_eq_true rfl), (Nat.le_of_ble_eq_true rfl)⟩ ?_
        rw [eN] at h32
        refine cJD_doubleToLongBits (hni (by omega)).1 ?_
        refine j_callV (m' := mM_mix) (As := [_]) (p2 := 59) dM_digest_56 rfl ml_M_389 ok_mM_mix im_mM_mix se_mM_mix rfl rfl (Nat.le_of_ble_eq_true rfl) ly_69 rfl (Nat.le_of_ble_eq_true rfl) ⟨(Nat.le_of_ble_eq_true rfl), (Nat.le_of_ble_eq_true rfl)⟩ ?_
        refine cM_mixH ?_
        refine j_iconst (p2 := 60) dM_digest_59 rfl ?_
        refine j_istore_n (p2 := 61) (lv' := [(0, _), (1, _), (2, _)]) dM_digest_60 rfl (Nat.le_of_ble_eq_true rfl) ⟨rfl, rfl, rfl, trivial⟩ ?_
        refine J.loc (lv' := [(0, _), (1, _), (2, _)]) ⟨rfl, rfl, rfl, trivial⟩ ?_
        exact inner (by omega) 7 0 (by omega) (by omega)
  rw [hh0] at mods
  have go : J mM_digest 7 [(0, vR 69)] [] (mxH σ 47) Q := by
    refine j_aload_n (p2 := 8) dM_digest_7 rfl rfl ?_
    refine j_aload_n (p2 := 9) dM_digest_8 rfl rfl ?_
    refine j_getIk (p2 := 12) dM_digest_9 rfl fa_M_195 ly_69 rfl (ki := 11) rfl ?_
    refine j_i2l (p2 := 13) dM_digest_12 rfl ?_
    refine j_callV (m' := mM_mix) (As := [_]) (p2 := 16) dM_digest_13 rfl ml_M_389 ok_mM_mix im_mM_mix se_mM_mix rfl rfl (Nat.le_of_ble_eq_true rfl) ly_69 rfl (Nat.le_of_ble_eq_true rfl) ⟨(Nat.le_of_ble_eq_true rfl), (Nat.le_of_ble_eq_true rfl)⟩ ?_
    refine cM_mixH ?_
    refine j_aload_n (p2 := 17) dM_digest_16 rfl rfl ?_
    refine j_aload_n (p2 := 18) dM_digest_17 rfl rfl ?_
    refine j_getIk (p2 := 21) dM_digest_18 rfl fa_M_322 ly_69 rfl (ki := 12) rfl ?_
    refine j_i2l (p2 := 22) dM_digest_21 rfl ?_
    refine j_callV (m' := mM_mix) (As := [_]) (p2 := 25) dM_digest_22 rfl ml_M_389 ok_mM_mix im_mM_mix se_mM_mix rfl rfl (Nat.le_of_ble_eq_true rfl) ly_69 rfl (Nat.le_of_ble_eq_true rfl) ⟨(Nat.le_of_ble_eq_true rfl), (Nat.le_of_ble_eq_true rfl)⟩ ?_
    refine cM_mixH ?_
    refine j_iconst (p2 := 26) dM_digest_25 rfl ?_
    refine j_istore_n (p2 := 27) (lv' := [(0, _), (1, _)]) dM_digest_26 rfl (Nat.le_of_ble_eq_true rfl) ⟨rfl, rfl, trivial⟩ ?_
    refine J.loc (lv' := [(0, _), (1, _)]) ⟨rfl, rfl, trivial⟩ ?_
    exact mods (N + 1) 0 (by omega) (by omega)
  refine j_aload_n (p2 := 1) dM_digest_0 rfl rfl ?_
  refine j_ldc2 (p2 := 4) dM_digest_1 rfl cw_M_387 ?_
  refine j_putLk (p2 := 7) dM_digest_4 rfl fw_M_383 ly_69 rfl (ki := 60) rfl ?_
  refine J.loc (lv' := [(0, _)]) ⟨rfl, trivial⟩ ?_
  exact go
end RDIG
