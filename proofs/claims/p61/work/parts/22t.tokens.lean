/-! THE TEXT: TOKENS OF BOTH PROGRAMS -/
def bN (tb : Nat → Int32) (i : Nat) : Nat := (tb i).toBitVec.toNat % 256
theorem bN_lt (tb : Nat → Int32) (i : Nat) : bN tb i < 256 := Nat.mod_lt _ (by decide)
theorem bN_and (tb : Nat → Int32) (i : Nat) : (tb i) &&& (255 : Int32) = nI (bN tb i) := pk_and (tb i) 8 rfl
def bC (tb : Nat → Int32) (i : Nat) : Nat := if i < 500 then bN tb i else 0
theorem x10_byteAt {tb : Nat → Int32} {i : Nat} (hi : i ≤ 500) : f_X10_byteAt (nI i) tb = some (nI (bC tb i)) := by
  unfold bC
  by_cases q : i < 500
  · rw [f_X10_byteAt, if_neg (nI_pos (by omega)), if_neg (show ¬ (500 : Int32) ≤ nI i from nI_ge (b := 500) q (by omega)), gd_t _ (nI_in q (by omega)), nI_clamp (by omega), bN_and, if_pos q]
  · rw [f_X10_byteAt, if_neg (nI_pos (by omega)), if_pos (show (500 : Int32) ≤ nI i from nI_le (a := 500) (by omega) (by omega)), if_neg q]; rfl
def isL (b : Nat) : Bool := Nat.ble 97 b && Nat.ble b 122
def isD (b : Nat) : Bool := Nat.ble 48 b && Nat.ble b 57
theorem x7_isLetter {b : Nat} (hb : b < 256) : f_X7_isLetter (nI b) = some (if isL b then 1 else 0) := of_decide_eq_true (allB_at (N := 256) (p := fun b => decide (f_X7_isLetter (nI b) = some (if isL b then 1 else 0))) (by decide +kernel) b hb)
theorem x7_isDigit {b : Nat} (hb : b < 256) : f_X7_isDigit (nI b) = some (if isD b then 1 else 0) := of_decide_eq_true (allB_at (N := 256) (p := fun b => decide (f_X7_isDigit (nI b) = some (if isD b then 1 else 0))) (by decide +kernel) b hb)
theorem isL_le {b : Nat} (h : isL b = true) : 97 ≤ b ∧ b ≤ 122 := by
  simp only [isL, Bool.and_eq_true] at h
  exact ⟨Nat.le_of_ble_eq_true h.1, Nat.le_of_ble_eq_true h.2⟩
theorem isD_le {b : Nat} (h : isD b = true) : 48 ≤ b ∧ b ≤ 57 := by
  simp only [isD, Bool.and_eq_true] at h
  exact ⟨Nat.le_of_ble_eq_true h.1, Nat.le_of_ble_eq_true h.2⟩
theorem nI_neg1 {b : Nat} (hb : b < 2 ^ 31) : ¬ nI b = (-1 : Int32) := fun w => by
  have := nI_pos hb
  rw [w] at this
  exact this (by decide)
theorem nb117 {b : Nat} (hb : b < 256) (u : ¬ b = 117) : ¬ nI b = (117 : Int32) := fun z => u ((nI_eq (b := 117) (by omega) (by omega)).mp z)
theorem nb100 {b : Nat} (hb : b < 256) (u : ¬ b = 100) : ¬ nI b = (100 : Int32) := fun z => u ((nI_eq (b := 100) (by omega) (by omega)).mp z)
theorem yb117 {b : Nat} (u : b = 117) : nI b = (117 : Int32) := by rw [u]; rfl
theorem yb100 {b : Nat} (u : b = 100) : nI b = (100 : Int32) := by rw [u]; rfl
/-! words -/
def Wd (tb : Nat → Int32) (p : Nat) : Nat → Int64
  | 0 => 0
  | k + 1 => Wd tb p k * (32 : Int64) + ((nI (bN tb (p + k)) - (97 : Int32)) + (1 : Int32)).toInt64
def Rb (tb : Nat → Int32) (p : Nat) : Nat → Nat
  | 0 => 0
  | k + 1 => 2 * Rb tb p k + (if bN tb (p + k) = 117 then 1 else 0)
def Rk (tb : Nat → Int32) (p : Nat) : Nat → Nat
  | 0 => 1
  | k + 1 => if bN tb (p + k) = 117 ∨ bN tb (p + k) = 100 then Rk tb p k else 0
theorem Rb_lt (tb : Nat → Int32) (p : Nat) : ∀ k, Rb tb p k < 2 ^ k
  | 0 => Nat.one_pos
  | k + 1 => by
    have h := Rb_lt tb p k
    show 2 * Rb tb p k + (if bN tb (p + k) = 117 then 1 else 0) < 2 ^ (k + 1)
    rw [Nat.pow_succ]
    split <;> omega
theorem Rk_01 (tb : Nat → Int32) (p : Nat) : ∀ k, Rk tb p k = 0 ∨ Rk tb p k = 1
  | 0 => Or.inr rfl
  | k + 1 => by
    rw [Rk]
    split
    · exact Rk_01 tb p k
    · exact Or.inl rfl
theorem x7_row_23 {tb : Nat → Int32} {p L : Nat} (hL : L ≤ 12) (hp : p + L ≤ 500) : ∀ (f k : Nat), k ≤ L → L - k < f → Rk tb p k = 1 → f_X7_rowOfWord_23 f (nI (Rb tb p k)) (nI k) (nI L) (nI p) tb = some (if Rk tb p L = 1 then nI (Rb tb p L) else -1)
  | 0, _, _, h, _ => absurd h (Nat.not_lt_zero _)
  | f + 1, k, hk, hf, h1 => by
    rw [f_X7_rowOfWord_23]
    by_cases q : L ≤ k
    · have e : k = L := by omega
      subst e
      rw [if_pos (nI_le (Nat.le_refl _) (by omega)), if_pos h1]
    · have bl := bN_lt tb (p + k)
      have past : ∀ d, Rk tb p (k + 1) = 0 → Rk tb p (k + 1 + d) = 0 := fun d h => by
        induction d with
        | zero => exact h
        | succ d ih =>
          rw [show k + 1 + (d + 1) = (k + 1 + d) + 1 by omega, Rk]
          split
          · exact ih
          · rfl
      rw [if_neg (nI_ge (by omega) (by omega)), nI_add, x10_byteAt (by omega), bd_s, show bC tb (p + k) = bN tb (p + k) from if_pos (by omega)]
      by_cases u : bN tb (p + k) = 117
      · have IH := x7_row_23 hL hp f (k + 1) (by omega) (by omega) (by rw [Rk, if_pos (Or.inl u)]; exact h1)
        rw [Rb, if_pos u] at IH
        rw [if_pos (yb117 u), f_X7_rowOfWord_59, if_pos (yb117 u), f_X7_rowOfWord_73, lt_q, show (2 : Int32) = nI 2 from rfl, pk_mul, nI_1, nI_1, Nat.mul_comm (Rb tb p k) 2]
        exact IH
      · have n117 : ¬ nI (bN tb (p + k)) = (117 : Int32) := fun z => u ((nI_eq (b := 117) (by omega) (by omega)).mp z)
        rw [if_neg n117]
        by_cases d : bN tb (p + k) = 100
        · have IH := x7_row_23 hL hp f (k + 1) (by omega) (by omega) (by rw [Rk, if_pos (Or.inr d)]; exact h1)
          rw [Rb, if_neg u] at IH
          rw [if_pos (show nI (bN tb (p + k)) = (100 : Int32) by rw [d]; rfl), f_X7_rowOfWord_59, if_neg n117, f_X7_rowOfWord_73, lt_q, show (2 : Int32) = nI 2 from rfl, pk_mul, show ∀ z : Nat, nI z + (0 : Int32) = nI (z + 0) from fun z => nI_add z 0, nI_1, Nat.mul_comm (Rb tb p k) 2]
          exact IH
        · have r0 : Rk tb p (k + 1) = 0 := by rw [Rk, if_neg (fun z => z.elim u d)]
          have e := past (L - (k + 1)) r0
          rw [show k + 1 + (L - (k + 1)) = L by omega] at e
          rw [if_neg (nb100 bl d), if_neg (by omega)]
theorem x7_row {tb : Nat → Int32} {p L : Nat} (h2 : 2 ≤ L) (hL : L ≤ 12) (hp : p + L ≤ 500) : f_X7_rowOfWord (nI L) (nI p) tb = some (if Rk tb p L = 1 then nI (Rb tb p L) else -1) := by
  rw [f_X7_rowOfWord, if_neg (show ¬ nI L < (2 : Int32) from nI_nlt (b := 2) h2 (by omega)), if_pos (show nI L ≤ (12 : Int32) from nI_le (b := 12) hL (by omega))]
  exact x7_row_23 hL hp kFU 0 (Nat.zero_le _) (by unfold kFU; omega) rfl
theorem wordOr {P Q : Prop} (a : P ∨ Q) : P ∨ Q := a
/-! wholes -/
def Vd (tb : Nat → Int32) (p : Nat) : Nat → Nat
  | 0 => 0
  | k + 1 => 10 * Vd tb p k + (bN tb (p + k) - 48)
theorem Vd_lt {tb : Nat → Int32} {p : Nat} : ∀ k, (∀ j, j < k → isD (bN tb (p + j)) = true) → Vd tb p k < 10 ^ k
  | 0, _ => Nat.one_pos
  | k + 1, h => by
    have a := Vd_lt k (fun j hj => h j (by omega))
    have b := isD_le (h k (by omega))
    show 10 * Vd tb p k + (bN tb (p + k) - 48) < 10 ^ (k + 1)
    rw [Nat.pow_succ]
    omega
