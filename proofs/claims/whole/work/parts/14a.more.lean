/-! HEXAGONAL LAYERS COUNTED ONE BY ONE; HOW LONG A ROW IS BEFORE IT REPEATS ITSELF -/
def rX (n r k : Nat) : Nat := if rS n r k = rS n r (k + n - 1) then 0 else 1
def rXc (n r : Nat) : Nat → Nat
  | 0 => 0
  | k + 1 => rXc n r k + rX n r k
theorem rX_01 (n r k : Nat) : rX n r k = 0 ∨ rX n r k = 1 := by unfold rX; split <;> simp
theorem rXc_le (n r : Nat) : ∀ k, rXc n r k ≤ k
  | 0 => Nat.le_refl _
  | k + 1 => by
    have h := rXc_le n r k
    have := rX_01 n r k
    show rXc n r k + rX n r k ≤ k + 1
    omega
theorem x13_isHex {n r k : Nat} (h1 : 1 ≤ n) (h2 : n ≤ 12) (hr : r < 2 ^ n) (hk : k < 2 ^ 30) : f_X13_isHex (nI r) (nI n) (nI k) = some (nI (rX n r k)) := by
  have e : (nI k + nI n) - (1 : Int32) = nI (k + n - 1) := by
    obtain ⟨j, hj⟩ : ∃ j, k + n = j + 1 := ⟨k + n - 1, by omega⟩
    rw [nI_add, hj, nI_pred] <;> rfl
  rw [f_X13_isHex, x13_step h1 h2 hr (by omega), bd_some, e, x13_step h1 h2 hr (by omega), bd_some]
  unfold rX
  by_cases q : rS n r k = rS n r (k + n - 1)
  · rw [if_pos ((rSv_eq (rS_lt n r k) (rS_lt n r _)).mpr q), if_pos q] <;> rfl
  · rw [if_neg (fun z => q ((rSv_eq (rS_lt n r k) (rS_lt n r _)).mp z)), if_neg q] <;> rfl
theorem x13_hexes_4 {n r : Nat} (h1 : 1 ≤ n) (h2 : n ≤ 12) (hr : r < 2 ^ n) : ∀ (f k : Nat), k ≤ n → n - k < f →
    f_X13_hexes_4 f (nI r) (nI n) (nI (rXc n r k)) (nI k) = some (nI (rXc n r n))
  | 0, _, _, h => absurd h (Nat.not_lt_zero _)
  | f + 1, k, hk, hf => by
    rw [f_X13_hexes_4]
    by_cases q : n ≤ k
    · rw [if_pos ((nI_leI (by omega) (by omega)).mpr q), show k = n by omega]
    · rw [if_neg (fun z => q ((nI_leI (by omega) (by omega)).mp z)), x13_isHex h1 h2 hr (by omega), bd_some]
      rcases rX_01 n r k with e | e
      · have e2 : rXc n r (k + 1) = rXc n r k := by show rXc n r k + rX n r k = _; rw [e, Nat.add_zero]
        rw [e, if_pos nI_0, f_X13_hexes_24, lt_eq, nI_1, show nI (rXc n r k) + (0 : Int32) = nI (rXc n r k + 0) from nI_add _ 0, Nat.add_zero, ← e2]
        exact x13_hexes_4 h1 h2 hr f (k + 1) (by omega) (by omega)
      · have e2 : rXc n r (k + 1) = rXc n r k + 1 := by show rXc n r k + rX n r k = _; rw [e]
        rw [e, if_neg (show ¬ nI 1 = 0 by decide +kernel), f_X13_hexes_24, lt_eq, nI_1, nI_1, ← e2]
        exact x13_hexes_4 h1 h2 hr f (k + 1) (by omega) (by omega)
theorem rXc_H {n r : Nat} (h1 : 1 ≤ n) (h2 : n ≤ 12) (hr : r < 2 ^ n) : rXc n r n = rH n r := of_decide_eq_true (allR_at (p := fun n r => decide (rXc n r n = rH n r)) (by decide +kernel) h1 h2 hr)
theorem x13_hexes {n r : Nat} (h1 : 1 ≤ n) (h2 : n ≤ 12) (hr : r < 2 ^ n) : f_X13_hexes (nI r) (nI n) = some (nI (rH n r)) := by
  rw [← rXc_H h1 h2 hr]
  exact x13_hexes_4 h1 h2 hr kFU 0 (Nat.zero_le _) (by unfold kFU; omega)
theorem rTi_n {n r : Nat} (h1 : 1 ≤ n) (h2 : n ≤ 12) (hr : r < 2 ^ n) : rTi n r n = r := of_decide_eq_true (allR_at (p := fun n r => decide (rTi n r n = r)) (by decide +kernel) h1 h2 hr)
/-- the first of k, k + 1, .. (f of them) after which the row comes again, else n -/
def rPf (n r : Nat) : Nat → Nat → Nat
  | 0, _ => n
  | f + 1, k => if rTi n r k = r then k else rPf n r f (k + 1)
def rPd (n r : Nat) : Nat := rPf n r (n - 1) 1
theorem rPf_le {n r : Nat} : ∀ f k, k + f ≤ n → 1 ≤ k → 1 ≤ n → 1 ≤ rPf n r f k ∧ rPf n r f k ≤ n
  | 0, _, _, _, h => ⟨h, Nat.le_refl _⟩
  | f + 1, k, h, h0, h1 => by
    unfold rPf
    split
    · exact ⟨h0, by omega⟩
    · exact rPf_le f (k + 1) (by omega) (by omega) h1
theorem x8_period_8 {n r : Nat} (h1 : 1 ≤ n) (h2 : n ≤ 12) (hr : r < 2 ^ n) : ∀ (f k : Nat), k ≤ n → n - k < f →
    f_X8_period_8 f (nI r) (nI n) (nI (rTi n r k)) (nI k) = some (nI (rPf n r (n - k) k))
  | 0, _, _, h => absurd h (Nat.not_lt_zero _)
  | f + 1, k, hk, hf => by
    have l4 := r4096 h2 hr
    have l5 := r4096 h2 (rTi_lt h1 h2 hr k)
    rw [f_X8_period_8]
    by_cases q : n ≤ k
    · rw [if_pos ((nI_leI (by omega) (by omega)).mpr q), show n - k = 0 by omega, rPf]
    · rw [if_neg (fun z => q ((nI_leI (by omega) (by omega)).mp z)), show n - k = (n - (k + 1)) + 1 by omega, rPf]
      by_cases q2 : rTi n r k = r
      · rw [if_pos ((nI_eq (by omega) (by omega)).mpr q2), if_pos q2]
      · rw [if_neg (fun z => q2 ((nI_eq (by omega) (by omega)).mp z)), if_neg q2, x8_turned h1 h2 (rTi_lt h1 h2 hr k), bd_some, nI_1]
        exact x8_period_8 h1 h2 hr f (k + 1) (by omega) (by omega)
theorem x8_period {n r : Nat} (h1 : 1 ≤ n) (h2 : n ≤ 12) (hr : r < 2 ^ n) : f_X8_period (nI r) (nI n) = some (nI (rPd n r)) := by
  rw [f_X8_period, x8_turned h1 h2 hr, bd_some]
  exact x8_period_8 h1 h2 hr kFU 1 h1 (by unfold kFU; omega)
theorem x13_itself_8 {n r : Nat} (h1 : 1 ≤ n) (h2 : n ≤ 12) (hr : r < 2 ^ n) : ∀ (f k : Nat), k ≤ n → n - k < f →
    f_X13_itself_8 f (nI r) (nI n) (nI k) (nI (rTi n r k)) = some (nI (rPf n r (n - k) k))
  | 0, _, _, h => absurd h (Nat.not_lt_zero _)
  | f + 1, k, hk, hf => by
    have l4 := r4096 h2 hr
    have l5 := r4096 h2 (rTi_lt h1 h2 hr k)
    rw [f_X13_itself_8]
    by_cases q : n ≤ k
    · have e : k = n := by omega
      subst e
      rw [if_pos ((nI_eq (by omega) (by omega)).mpr (rTi_n h1 h2 hr)), Nat.sub_self, rPf]
    · rw [show n - k = (n - (k + 1)) + 1 by omega, rPf]
      by_cases q2 : rTi n r k = r
      · rw [if_pos ((nI_eq (by omega) (by omega)).mpr q2), if_pos q2]
      · rw [if_neg (fun z => q2 ((nI_eq (by omega) (by omega)).mp z)), if_neg q2, x13_turned h1 h2 (rTi_lt h1 h2 hr k), bd_some, nI_1]
        exact x13_itself_8 h1 h2 hr f (k + 1) (by omega) (by omega)
theorem x13_itself {n r : Nat} (h1 : 1 ≤ n) (h2 : n ≤ 12) (hr : r < 2 ^ n) : f_X13_itself (nI r) (nI n) = some (nI (rPd n r)) := by
  rw [f_X13_itself, x13_turned h1 h2 hr, bd_some]
  exact x13_itself_8 h1 h2 hr kFU 1 h1 (by unfold kFU; omega)
