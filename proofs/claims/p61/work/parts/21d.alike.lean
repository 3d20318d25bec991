/-! THE LEAST ROW ALIKE -/
theorem i32_min {a b : Nat} (ha : a < 2 ^ 31) (hb : b < 2 ^ 31) : (if nI a < nI b then nI a else nI b) = nI (Nat.min b a) := by
  by_cases q : a < b
  · rw [if_pos ((nI_ltI ha hb).mpr q), show Nat.min b a = a from Nat.min_eq_right (Nat.le_of_lt q)]
  · rw [if_neg (fun z => q ((nI_ltI ha hb).mp z)), show Nat.min b a = b from Nat.min_eq_left (Nat.le_of_not_lt q)]
def rMn (n r : Nat) : Nat → Nat
  | 0 => r
  | i + 1 => Nat.min (rMn n r i) (rTi n r (i + 1))
theorem rMn_lt {n r : Nat} (hr : r < 2 ^ n) : ∀ i, rMn n r i < 2 ^ n
  | 0 => hr
  | i + 1 => Nat.lt_of_le_of_lt (Nat.min_le_left _ _) (rMn_lt hr i)
theorem x8_leastTurned_7 {n r : Nat} (h1 : 1 ≤ n) (h2 : n ≤ 12) (hr : r < 2 ^ n) : ∀ (f i : Nat), i + 1 ≤ n → n - i ≤ f →
    f_X8_leastTurned_7 f (nI n) (nI (rMn n r i)) (nI (rTi n r i)) (nI (i + 1)) = some (nI (rMn n r (n - 1)))
  | 0, _, h, h' => by omega
  | f + 1, i, hi, hf => by
    have l4 := r4096 h2 (rMn_lt hr i)
    have l5 := r4096 h2 (rTi_lt h1 h2 hr (i + 1))
    rw [f_X8_leastTurned_7]
    by_cases q : n ≤ i + 1
    · rw [if_pos ((nI_leI (by omega) (by omega)).mpr q), show i = n - 1 by omega]
    · rw [if_neg (fun z => q ((nI_leI (by omega) (by omega)).mp z)), x8_turned h1 h2 (rTi_lt h1 h2 hr i), bd_some, lt_eq]
      rw [show rT n (rTi n r i) = rTi n r (i + 1) from rfl, i32_min (by omega) (by omega), nI_1]
      exact x8_leastTurned_7 h1 h2 hr f (i + 1) (by omega) (by omega)
theorem x8_leastTurned {n r : Nat} (h1 : 1 ≤ n) (h2 : n ≤ 12) (hr : r < 2 ^ n) : f_X8_leastTurned (nI r) (nI n) = some (nI (rMn n r (n - 1))) :=
  x8_leastTurned_7 h1 h2 hr kFU 0 h1 (by unfold kFU; omega)
def rSub (a x : Nat) : Nat := if Nat.land a x = a then 1 else 0
theorem x8_allows {x a : Nat} (hx : x < 4) (ha : a < 4) : f_X8_allows (nI x) (nI a) = some (nI (rSub a x)) :=
  of_decide_eq_true (allB_at (allB_at (N := 4) (p := fun x => allB 4 (fun a => decide (f_X8_allows (nI x) (nI a) = some (nI (rSub a x))))) (by decide +kernel) x hx) a ha)
theorem rSub_01 (a x : Nat) : rSub a x = 0 ∨ rSub a x = 1 := by unfold rSub; split <;> simp
def rLA (n r x : Nat) : Nat → Nat
  | 0 => r
  | a + 1 => if rSub a x = 0 then rLA n r x a else Nat.min (rLA n r x a) (rMn n (rL n r a) (n - 1))
theorem rLA_lt {n r x : Nat} (hr : r < 2 ^ n) : ∀ a, rLA n r x a < 2 ^ n
  | 0 => hr
  | a + 1 => by
    unfold rLA
    split
    · exact rLA_lt hr a
    · exact Nat.lt_of_le_of_lt (Nat.min_le_left _ _) (rLA_lt hr a)
theorem x8_leastAlike_5 {n r x : Nat} (h1 : 1 ≤ n) (h2 : n ≤ 12) (hr : r < 2 ^ n) (hx : x < 4) : ∀ (f a : Nat), a ≤ 4 → 4 - a < f →
    f_X8_leastAlike_5 f (nI r) (nI n) (nI x) (nI (rLA n r x a)) (nI a) = some (nI (rLA n r x 4))
  | 0, _, _, h => absurd h (Nat.not_lt_zero _)
  | f + 1, a, ha, hf => by
    have l4 := r4096 h2 (rLA_lt (x := x) hr a)
    rw [f_X8_leastAlike_5]
    by_cases q : 3 < a
    · rw [if_pos (show (3 : Int32) < nI a from (nI_ltI (a := 3) (by omega) (by omega)).mpr q), show a = 4 by omega]
    · have ha4 : a < 4 := by omega
      have l5 := r4096 h2 (rMn_lt (rL_lt (a := a) h1 h2 hr) (n - 1))
      rw [if_neg (show ¬ (3 : Int32) < nI a from fun z => q ((nI_ltI (a := 3) (by omega) (by omega)).mp z)), x8_allows hx ha4, bd_some]
      rcases rSub_01 a x with e | e
      · rw [e, if_pos nI_0]
        have e2 : rLA n r x (a + 1) = rLA n r x a := by rw [rLA, if_pos e]
        rw [f_X8_leastAlike_36, nI_1, ← e2]
        exact x8_leastAlike_5 h1 h2 hr hx f (a + 1) (by omega) (by omega)
      · rw [e, if_neg (show ¬ nI 1 = 0 by decide +kernel), x8_inWay h1 h2 hr ha4, bd_some, x8_leastTurned h1 h2 (rL_lt h1 h2 hr), bd_some, lt_eq, i32_min (by omega) (by omega)]
        have e2 : rLA n r x (a + 1) = Nat.min (rLA n r x a) (rMn n (rL n r a) (n - 1)) := by rw [rLA, if_neg (by omega)]
        rw [f_X8_leastAlike_36, nI_1, ← e2]
        exact x8_leastAlike_5 h1 h2 hr hx f (a + 1) (by omega) (by omega)
theorem x8_leastAlike {n r x : Nat} (h1 : 1 ≤ n) (h2 : n ≤ 12) (hr : r < 2 ^ n) (hx : x < 4) : f_X8_leastAlike (nI r) (nI n) (nI x) = some (nI (rLA n r x 4)) :=
  x8_leastAlike_5 h1 h2 hr hx kFU 0 (Nat.zero_le _) (by unfold kFU; omega)
def rMl (n s m : Nat) : Nat → Nat
  | 0 => m
  | i + 1 => Nat.min (rMl n s m i) (rTi n s i)
theorem rMl_eq (n s m : Nat) : ∀ i, rMl n s m (i + 1) = Nat.min m (rMn n s i)
  | 0 => rfl
  | i + 1 => by
    show Nat.min (rMl n s m (i + 1)) (rTi n s (i + 1)) = Nat.min m (Nat.min (rMn n s i) (rTi n s (i + 1)))
    rw [rMl_eq n s m i]
    exact Nat.min_assoc _ _ _
theorem rMl_le (n s m : Nat) : ∀ i, rMl n s m i ≤ m
  | 0 => Nat.le_refl _
  | i + 1 => Nat.le_trans (Nat.min_le_left _ _) (rMl_le n s m i)
