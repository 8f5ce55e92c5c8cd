/-! ===== the first heap: class and reference are one there ===== -/
theorem sg0_D (c : Nat) (k : Int) : hD sg0 c k = 0 := rfl
theorem sg0_F (c : Nat) (k : Int) : hF sg0 c k = 0 := rfl
theorem mg_0 : mg (0 : UInt64) 1024 := by unfold mg; decide
theorem mf_0 : mf (0 : UInt32) 128 := by unfold mf; decide
theorem rel_0 : Rel sg0 := by
  have n0 : vf_n64 (0 : UInt64) := mg_0.nn (by decide)
  refine ⟨0, 0, ?_, ?_, ?_, ?_, ?_, ?_, ?_, fun o => absurd rfl o⟩
  · exact ⟨⟨by decide, by decide, by decide⟩, ⟨by decide, by decide, by decide⟩, ⟨by decide, by decide, by decide⟩, ⟨by decide, by decide, by decide⟩, ⟨by decide, by decide⟩, ⟨by decide, by decide, by decide⟩, ⟨by decide, by decide, by decide⟩, ⟨by decide, by decide, by decide⟩, by decide, by decide, by decide, by decide⟩
  · exact ⟨rfl, rfl, rfl, rfl, rfl, fun k a b => absurd b (by omega), rfl, rfl, rfl, rfl, rfl⟩
  · refine ⟨fun m a b => absurd b (by omega), rfl, fun m a b => absurd b (by omega), fun k a b => ?_, fun k a b => ⟨(by decide : (0 : Int) ≤ 0), (by decide : (0 : Int) ≤ 1)⟩, fun k a b => ⟨(by decide : (0 : Int) ≤ 0), (by decide : (0 : Int) ≤ 8)⟩, fun k a b => ⟨mg_0, mg_0⟩, fun m a b j h1 h2 => ?_, fun m a b => by rw [sg0_D]; decide, fun k a b => ⟨(by decide : (0 : Int) ≤ 0), (by decide : (0 : Int) ≤ 300)⟩⟩
    · show (if k.toNat < 120 then -1 else 0 : Int) = -1
      rw [if_pos (by omega)]
    · have h2 : j < 0 - 1 := h2
      omega
  · refine ⟨fun k a b => ⟨rfl, ?_⟩, fun k a b => ?_, fun k a b => ?_, ?_⟩
    · show inR (if k.toNat < 20 then -1 else 0 : Int)
      rw [if_pos (by omega)]
      constructor <;> decide
    · show (if k.toNat < 20 then -1 else 0 : Int) = -1
      rw [if_pos (by omega)]
    · show inR (if k.toNat < 20 then -1 else 0 : Int)
      rw [if_pos (by omega)]
      constructor <;> decide
    · constructor <;> decide
  · exact ⟨rfl, rfl, rfl, fun s a b => absurd b (by omega), fun k a b => n0⟩
  · intro j a b
    have b : j < 0 := b
    exact absurd b (by omega)
  · refine ⟨⟨fun m a b => ⟨mg_0, mf_0, mg_0, mf_0⟩, fun k a b => ⟨mg_0, mf_0⟩⟩, ?_, ?_, fun k a b => ⟨mg_0, ⟨0, by rw [sg0_D]; decide +kernel, mf_0⟩, mg_0⟩, fun h => absurd h (by decide), fun m a b => ⟨n0, n0⟩⟩
    · intro m a b
      exact absurd b (by omega)
    · exact fun m a b => ⟨rfl, rfl⟩
