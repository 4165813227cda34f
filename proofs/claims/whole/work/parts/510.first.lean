/-! the invariant holds at first -/
theorem nI0 : (0 : Int32) = nI 0 := rfl
theorem f151 (j : Nat) (h : j ≠ 1) : cpS0.1 151 j = 0 := by show (if j = 1 then (1 : Int32) else 0) = 0; rw [if_neg h]
theorem cp_first : cpRl cpS0 := by
  have hnW : nW cpS0 57 1 0 0 := by
    refine ⟨fun c hc => absurd hc (by omega), fun c _ _ => ⟨rfl, rfl⟩, ⟨fun _ => 0, fun p _ => ⟨rfl, Nat.one_pos⟩, fun _ _ _ _ => by simp, fun _ _ => by simp, fun _ _ _ => rfl⟩, 0, by decide, rfl⟩
  have hrN : rN cpS0 57 (0 + 62) := by
    refine ⟨fun c hc => ?_, fun c hc => ?_, fun c hc => ?_, ?_, ?_⟩ <;> rw [f151 _ (by omega)] <;> rfl
  have hl1 : lW cpS0 1 0 true := by
    refine ⟨[1000, 1001, 2004, 2008], 0, by decide, by decide, rfl, rfl, ?_, by decide, ?_, Or.inl ⟨rfl, rfl⟩⟩
    · intro j hj
      match j, hj with
      | 0, _ => rfl
      | 1, _ => rfl
      | 2, _ => rfl
      | 3, _ => rfl
      | j + 4, h => exact absurd h (by simp)
    · exact ⟨by decide, _, rfl, by decide, _, rfl, by decide, _, rfl, by decide, _, rfl, rfl⟩
  have hl2 : lW cpS0 1 0 false := by
    refine ⟨[1003], 4, by decide, by decide, rfl, rfl, ?_, by decide, ?_, Or.inl ⟨rfl, rfl⟩⟩
    · intro j hj
      match j, hj with
      | 0, _ => rfl
      | j + 1, h => exact absurd h (by simp)
    · exact ⟨by decide, _, rfl, rfl⟩
  refine ⟨⟨0, by decide, rfl, rfl, fun j hj => absurd hj (by omega)⟩, ⟨rfl, rfl⟩, fun t ht => ?_, ⟨1, 0, 0, 0, fun _ => (0, 0, 0), ⟨by decide, by decide⟩, by decide, by decide, by decide, ⟨rfl, rfl⟩, ⟨rfl, rfl⟩, ⟨rfl, rfl⟩, ⟨rfl, rfl⟩, rfl, fun r hr => absurd hr (by omega), fun r hr => absurd hr (by omega), fun r hr => absurd hr (by omega), fun a b ha hb => ?_, hl1, hl2, hnW, hrN⟩, ⟨0, 0, by decide, by decide, rfl, rfl, rfl, fun i hi => absurd hi (by omega)⟩, fun i hi => ?_⟩
  · rcases (show t = 0 ∨ t = 1 ∨ t = 2 ∨ t = 3 by omega) with rfl | rfl | rfl | rfl <;> exact ⟨rfl, Or.inl rfl⟩
  · obtain rfl : a = 0 := by omega
    obtain rfl : b = 0 := by omega
    decide +kernel
  · rcases (show i = 0 ∨ i = 1 by omega) with rfl | rfl <;> exact ⟨rfl, Or.inl rfl, fun h => absurd h (by decide)⟩
