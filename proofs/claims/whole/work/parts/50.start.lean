theorem z32 : (0 : Int32) = nI 0 := nI_0.symm
theorem RQ_0 : RQ X0 M0 := ⟨rfl, rfl, rfl, rfl, rfl, rfl, rfl, rfl, rfl, rfl, rfl, rfl, rfl, rfl, rfl, rfl, rfl, rfl, rfl, rfl, rfl, rfl, rfl, rfl, rfl, rfl, rfl, rfl, rfl, rfl, rfl, rfl, rfl, rfl, rfl, rfl, rfl, rfl⟩
theorem Rel_0 : Rel 0 X0 M0 := by
  refine ⟨0, 0, 0, 0, 0, 0, 0, 0, 0, 0, RQ_0, ?_, ?_, ?_, ?_, ?_, ?_, ?_, ?_, ?_, ?_⟩
  · exact ⟨by decide, Nat.le_refl _, z32, z32, fun r h => absurd h (Nat.not_lt_zero _), fun w h => absurd h (Nat.not_lt_zero _), fun w _ => rfl⟩
  · refine ⟨fun j hj => Or.inl (if_pos hj), fun h => absurd rfl h, fun s i hs hi => ?_, fun i => ?_, fun s hs => ?_⟩
    · match s, hs with
      | 0, _ => rfl
      | 1, _ => rfl
      | 2, _ => rfl
      | 3, _ => rfl
      | n + 4, h => exact absurd h (by omega)
    · exact (by decide : (0 : Int32).toInt8.toInt32 = 0)
    · match s, hs with
      | 0, _ => exact fun i => (by decide : (0 : Int32).toInt8.toInt32 = 0)
      | 1, _ => exact fun i => (by decide : (0 : Int32).toInt8.toInt32 = 0)
      | 2, _ => exact fun i => (by decide : (0 : Int32).toInt8.toInt32 = 0)
      | 3, _ => exact fun i => (by decide : (0 : Int32).toInt8.toInt32 = 0)
      | n + 4, h => exact absurd h (by omega)
  · exact fun w => ⟨0, Nat.le_refl _, z32⟩
  · exact ⟨z32, z32, z32, z32, Nat.le_refl _, by decide, by decide, rfl, fun k h => absurd h (Nat.not_lt_zero _)⟩
  · refine fun a ha => ⟨0, by decide, z32, fun b hb => ⟨fun h => ?_, fun h => ?_⟩⟩
    · rw [Nat.zero_testBit] at h; exact absurd h (by decide)
    · obtain ⟨k, h, -⟩ := h; exact absurd h (Nat.not_lt_zero _)
  · exact ⟨z32, by decide⟩
  · exact ⟨fun w hw _ => ⟨rfl, rfl, rfl, rfl⟩, fun w _ hw => ⟨if_pos hw, if_pos hw, if_pos hw, if_pos hw⟩⟩
  · exact ⟨z32, by decide, z32, by decide, fun r _ => show vp_in 0 16 by unfold vp_in; decide⟩
  · exact fun h => absurd rfl h
  · exact ⟨z32, by decide, fun r h => absurd h (Nat.not_lt_zero _), fun _ => rfl, fun _ => by decide, z32⟩
