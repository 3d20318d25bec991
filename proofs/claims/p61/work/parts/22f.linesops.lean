/-! THE CALLS OF LINES -/
def lnO (n r l : Nat) : Int32 := match f_X6_goesOut (nI r) (nI n) (nI l) (fun _ => 0) (fun _ => 0) with
  | some t => t.1
  | none => 0
def lnS (n r : Nat) : Nat → Nat
  | 0 => 0
  | k + 1 => lnS n r k + (if lnO n r k = 0 then 0 else 2 ^ k)
theorem lnS_lt (n r : Nat) : ∀ k, lnS n r k < 2 ^ k
  | 0 => Nat.one_pos
  | k + 1 => by
    have h := lnS_lt n r k
    show lnS n r k + (if lnO n r k = 0 then 0 else 2 ^ k) < 2 ^ (k + 1)
    rw [Nat.pow_succ]
    split <;> omega
theorem lnS_eq {n r n' r' : Nat} : ∀ k, lnS n r k = lnS n' r' k ↔ ∀ j, j < k → (lnO n r j = 0 ↔ lnO n' r' j = 0)
  | 0 => ⟨fun _ j hj => absurd hj (Nat.not_lt_zero _), fun _ => rfl⟩
  | k + 1 => by
    have a := lnS_lt n r k
    have b := lnS_lt n' r' k
    have IH := lnS_eq (n := n) (r := r) (n' := n') (r' := r') k
    have key : lnS n r (k + 1) = lnS n' r' (k + 1) ↔ (lnS n r k = lnS n' r' k ∧ (lnO n r k = 0 ↔ lnO n' r' k = 0)) := by
      show lnS n r k + (if lnO n r k = 0 then 0 else 2 ^ k) = lnS n' r' k + (if lnO n' r' k = 0 then 0 else 2 ^ k) ↔ _
      by_cases p : lnO n r k = 0 <;> by_cases q : lnO n' r' k = 0 <;> simp only [p, q, if_true, if_false, iff_true, iff_false, true_iff, not_true, not_false_iff, and_true, and_false] <;> omega
    rw [key, IH]
    constructor
    · intro ⟨h1, h2⟩ j hj
      by_cases e : j = k
      · rw [e]; exact h2
      · exact h1 j (by omega)
    · intro h
      exact ⟨fun j hj => h j (by omega), h k (by omega)⟩
theorem lN_or (a b : Nat) : lN a ||| lN b = lN (Nat.lor a b) := Int64.toBitVec_inj.mp (by
  show BitVec.ofNat 64 a ||| BitVec.ofNat 64 b = BitVec.ofNat 64 (a ||| b)
  exact BitVec.ofNat_or.symm)
theorem ln_bit {k : Nat} (hk : k < 36) : (1 : Int64) <<< ((nI k).toInt64 &&& 63) = lN (2 ^ k) :=
  of_decide_eq_true (allB_at (N := 36) (p := fun k => decide ((1 : Int64) <<< ((nI k).toInt64 &&& 63) = lN (2 ^ k))) (by decide +kernel) k hk)
theorem ln_add {x k : Nat} (h : x < 2 ^ k) : Nat.lor x (2 ^ k) = x + 2 ^ k := by
  have e := Nat.two_pow_add_eq_or_of_lt h 1
  rw [Nat.mul_one] at e
  show x ||| 2 ^ k = _
  rw [Nat.or_comm, ← e, Nat.add_comm]
