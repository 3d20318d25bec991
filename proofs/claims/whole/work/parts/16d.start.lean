/-! THE TWO BUNDLES AT THE START -/
theorem R0_start : R0 s_0 (s_i s_0 2 (-1)) := ⟨⟨⟨0, by decide, rfl, rfl, fun i hi => absurd hi (Nat.not_lt_zero i)⟩, rfl⟩, ⟨rfl, (if_neg (show ¬ (0 : Int32) = 4 by decide)).symm⟩, rfl, rfl, rfl, rfl, rfl, rfl, rfl⟩
