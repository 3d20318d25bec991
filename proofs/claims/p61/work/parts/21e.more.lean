/-! HEXAGONAL LAYERS COUNTED ONE BY ONE; HOW LONG A ROW IS BEFORE IT REPEATS ITSELF -/
def rX (n r k : Nat) : Nat := if rS n r k = rS n r (k + n - 1) then 0 else 1
def rXc (n r : Nat) : Nat → Nat
  | 0 => 0
  | k + 1 => rXc n r k + rX n r k
theorem rX_01 (n r k : Nat) : rX n r k = 0 ∨ rX n r k = 1 := by unfold rX; split <;> simp
theorem rXc_le (n r : Nat) : ∀ k, rXc n r k ≤ k
  | 0 => Nat.le_refl _
  | k + 1 => by
    have h := rXc_le n r k
    have := rX_01 n r k
    show rXc n r k + rX n r k ≤ k + 1
    omega
theorem rXc_H {n r : Nat} (h1 : 1 ≤ n) (h2 : n ≤ 12) (hr : r < 2 ^ n) : rXc n r n = rH n r := of_decide_eq_true (allR_at (p := fun n r => decide (rXc n r n = rH n r)) (by decide +kernel) h1 h2 hr)
theorem rTi_n {n r : Nat} (h1 : 1 ≤ n) (h2 : n ≤ 12) (hr : r < 2 ^ n) : rTi n r n = r := of_decide_eq_true (allR_at (p := fun n r => decide (rTi n r n = r)) (by decide +kernel) h1 h2 hr)
def rPf (n r : Nat) : Nat → Nat → Nat
  | 0, _ => n
  | f + 1, k => if rTi n r k = r then k else rPf n r f (k + 1)
def rPd (n r : Nat) : Nat := rPf n r (n - 1) 1
theorem rPf_le {n r : Nat} : ∀ f k, k + f ≤ n → 1 ≤ k → 1 ≤ n → 1 ≤ rPf n r f k ∧ rPf n r f k ≤ n
  | 0, _, _, _, h => ⟨h, Nat.le_refl _⟩
  | f + 1, k, h, h0, h1 => by
    unfold rPf
    split
    · exact ⟨h0, by omega⟩
    · exact rPf_le f (k + 1) (by omega) (by omega) h1
theorem x8_period_8 {n r : Nat} (h1 : 1 ≤ n) (h2 : n ≤ 12) (hr : r < 2 ^ n) : ∀ (f k : Nat), k ≤ n → n - k < f →
    f_X8_period_8 f (nI r) (nI n) (nI (rTi n r k)) (nI k) = some (nI (rPf n r (n - k) k))
  | 0, _, _, h => absurd h (Nat.not_lt_zero _)
  | f + 1, k, hk, hf => by
    have l4 := r4096 h2 hr
    have l5 := r4096 h2 (rTi_lt h1 h2 hr k)
    rw [f_X8_period_8]
    by_cases q : n ≤ k
    · rw [if_pos ((nI_leI (by omega) (by omega)).mpr q), show n - k = 0 by omega, rPf]
    · rw [if_neg (fun z => q ((nI_leI (by omega) (by omega)).mp z)), show n - k = (n - (k + 1)) + 1 by omega, rPf]
      by_cases q2 : rTi n r k = r
      · rw [if_pos ((nI_eq (by omega) (by omega)).mpr q2), if_pos q2]
      · rw [if_neg (fun z => q2 ((nI_eq (by omega) (by omega)).mp z)), if_neg q2, x8_turned h1 h2 (rTi_lt h1 h2 hr k), bd_some, nI_1]
        exact x8_period_8 h1 h2 hr f (k + 1) (by omega) (by omega)
theorem x8_period {n r : Nat} (h1 : 1 ≤ n) (h2 : n ≤ 12) (hr : r < 2 ^ n) : f_X8_period (nI r) (nI n) = some (nI (rPd n r)) := by
  rw [f_X8_period, x8_turned h1 h2 hr, bd_some]
  exact x8_period_8 h1 h2 hr kFU 1 h1 (by unfold kFU; omega)
