/-! THE CALLS OF UNSURE STEPS -/
theorem fdI_neg {F : Nat → Nat} {K : Nat} (h : FK F K) {i : Int32} (hi : i < 0) : ∀ s, F s = 1 → s < 16 → (-1 : Int32) = if nI (sm F s) = i then nI s else -1 := fun s _ hs => by
  have l := sm_le h.1 s
  rw [if_neg (fun z => by rw [← z] at hi; exact nI_pos (by omega) hi)]
theorem fd_val (F : Nat → Nat) (i : Nat) : ∀ k, k ≤ 16 → fd F i k = -1 ∨ ∃ s, s < 16 ∧ fd F i k = nI s
  | 0, _ => Or.inl rfl
  | k + 1, h => by
    rw [fd]
    split
    · exact fd_val F i k (by omega)
    · split
      · exact Or.inr ⟨k, by omega, rfl⟩
      · exact fd_val F i k (by omega)
theorem mL_alt {F : Nat → Nat} {K : Nat} (h : FK F K) (u : Nat) : (if nI (oI F u K) ≤ nI (sm F K) - nI (oI F u K) then nI (sm F K) - nI (oI F u K) else nI (oI F u K)) = nI (mL F K u) := by
  have a := oI_le h.1 u K
  have b := sm_le h.1 K
  have c := h.2.2
  rw [pk_sub a]
  unfold mL
  by_cases q : oI F u K ≤ sm F K - oI F u K
  · rw [if_pos ((nI_leI (by omega) (by omega)).mpr q)]
    by_cases z : oI F u K < sm F K - oI F u K
    · rw [if_pos z]
    · rw [if_neg z, show sm F K - oI F u K = oI F u K by omega]
  · rw [if_neg (fun z => q ((nI_leI (by omega) (by omega)).mp z)), if_neg (by omega)]
