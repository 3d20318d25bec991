/-! STEPS AND LETTERS, ONE BY ONE -/
def rTi (n r : Nat) : Nat → Nat
  | 0 => r
  | i + 1 => rT n (rTi n r i)
theorem rTi_lt {n r : Nat} (h1 : 1 ≤ n) (h2 : n ≤ 12) (hr : r < 2 ^ n) : ∀ i, rTi n r i < 2 ^ n
  | 0 => hr
  | i + 1 => rT_lt h1 h2 (rTi_lt h1 h2 hr i)
theorem rTi_S {n r : Nat} (h1 : 1 ≤ n) (h2 : n ≤ 12) (hr : r < 2 ^ n) : ∀ i k, rS n (rTi n r i) k = rS n r (k + i)
  | 0, _ => rfl
  | i + 1, k => by
    show rS n (rT n (rTi n r i)) k = _
    rw [rT_S h1 h2 (rTi_lt h1 h2 hr i), rTi_S h1 h2 hr i (k + 1)]
    congr 1; omega
theorem rS_mod (n r k : Nat) : rS n r (k % n) = rS n r k := by unfold rS; rw [Nat.mod_mod]
theorem r4096 {n r : Nat} (h2 : n ≤ 12) (hr : r < 2 ^ n) : r < 4096 := Nat.lt_of_lt_of_le hr (Nat.pow_le_pow_right (by decide) h2 : 2 ^ n ≤ 2 ^ 12)
theorem rw_sh {n j : Nat} (h2 : n ≤ 12) (hj : j < n) : ((((nI n - (1 : Int32)) - nI j) &&& 31).toBitVec.smod 32).toNat = n - 1 - j :=
  of_decide_eq_true (allB_at (allB_at (N := 13) (p := fun n => allB n (fun j => decide (((((nI n - (1 : Int32)) - nI j) &&& 31).toBitVec.smod 32).toNat = n - 1 - j))) (by decide +kernel) n (by omega)) j hj)
theorem rw_bit {n r j : Nat} (h2 : n ≤ 12) (hr : r < 2 ^ n) (hj : j < n) : (nI r >>> (((nI n - (1 : Int32)) - nI j) &&& 31)) &&& (1 : Int32) = nI (rS n r j) := by
  have h := r4096 h2 hr
  rw [pk_shrN (by omega) _ _ (rw_sh h2 hj), pk_andN (Nat.lt_of_le_of_lt (Nat.div_le_self _ _) (by omega)) 1 rfl]
  unfold rS
  rw [Nat.mod_eq_of_lt hj]
abbrev rSv (b : Nat) : Int32 := (2 : Int32) * nI b - (1 : Int32)
theorem rSv_eq {a b : Nat} (ha : a < 2) (hb : b < 2) : rSv a = rSv b ↔ a = b := by
  have : a = 0 ∨ a = 1 := by omega
  have : b = 0 ∨ b = 1 := by omega
  rcases ‹a = 0 ∨ a = 1› with rfl | rfl <;> rcases ‹b = 0 ∨ b = 1› with rfl | rfl <;> decide
def rLt (n r : Nat) : Nat → Nat
  | 0 => 0
  | k + 1 => (rLt n r k + (if rS n r k = 0 then 2 else 1)) % 3
theorem rLt_lt (n r : Nat) : ∀ k, rLt n r k < 3
  | 0 => Nat.succ_pos 2
  | _ + 1 => Nat.mod_lt _ (by decide)
theorem x8_letterBehind {p b : Nat} (hp : p < 3) (hb : b < 2) : f_X8_letterBehind (nI p) (nI b) = some (nI ((p + (if b = 0 then 2 else 1)) % 3)) :=
  of_decide_eq_true (allB_at (allB_at (N := 3) (p := fun p => allB 2 (fun b => decide (f_X8_letterBehind (nI p) (nI b) = some (nI ((p + (if b = 0 then 2 else 1)) % 3))))) (by decide +kernel) p hp) b hb)
theorem x8_letterAt_8 {n r K : Nat} (h1 : 1 ≤ n) (h2 : n ≤ 12) (hr : r < 2 ^ n) (hK : K < 2 ^ 31) : ∀ (f i : Nat), i ≤ K → K - i < f →
    f_X8_letterAt_8 f (nI n) (nI K) (nI (rLt n r i)) (nI (rTi n r i)) (nI i) = some (nI (rLt n r K))
  | 0, _, _, h => absurd h (Nat.not_lt_zero _)
  | f + 1, i, hi, hf => by
    rw [f_X8_letterAt_8]
    by_cases q : K ≤ i
    · rw [if_pos ((nI_leI hK (by omega)).mpr q), show i = K by omega]
    · rw [if_neg (fun z => q ((nI_leI hK (by omega)).mp z)), x8_startsUp h1 h2 (rTi_lt h1 h2 hr i), rTi_S h1 h2 hr i 0, Nat.zero_add, bd_some,
        x8_letterBehind (rLt_lt n r i) (rS_lt n r i), bd_some, x8_turned h1 h2 (rTi_lt h1 h2 hr i), bd_some, nI_1]
      exact x8_letterAt_8 h1 h2 hr hK f (i + 1) (by omega) (by omega)
theorem x8_letterAt {n r K : Nat} (h1 : 1 ≤ n) (h2 : n ≤ 12) (hr : r < 2 ^ n) (hK : K < 100000) : f_X8_letterAt (nI r) (nI n) (nI K) = some (nI (rLt n r K)) :=
  x8_letterAt_8 h1 h2 hr (by omega) kFU 0 (Nat.zero_le _) hK
theorem x8_turnedBy_5 {n r K : Nat} (h1 : 1 ≤ n) (h2 : n ≤ 12) (hr : r < 2 ^ n) (hK : K < 2 ^ 31) : ∀ (f i : Nat), i ≤ K → K - i < f →
    f_X8_turnedBy_5 f (nI n) (nI K) (nI (rTi n r i)) (nI i) = some (nI (rTi n r K))
  | 0, _, _, h => absurd h (Nat.not_lt_zero _)
  | f + 1, i, hi, hf => by
    rw [f_X8_turnedBy_5]
    by_cases q : K ≤ i
    · rw [if_pos ((nI_leI hK (by omega)).mpr q), show i = K by omega]
    · rw [if_neg (fun z => q ((nI_leI hK (by omega)).mp z)), x8_turned h1 h2 (rTi_lt h1 h2 hr i), bd_some, nI_1]
      exact x8_turnedBy_5 h1 h2 hr hK f (i + 1) (by omega) (by omega)
theorem x8_turnedBy {n r K : Nat} (h1 : 1 ≤ n) (h2 : n ≤ 12) (hr : r < 2 ^ n) (hK : K < 100000) : f_X8_turnedBy (nI r) (nI n) (nI K) = some (nI (rTi n r K)) :=
  x8_turnedBy_5 h1 h2 hr (by omega) kFU 0 (Nat.zero_le _) hK
