/-! UNSURE STEPS: THE SETS BY WHICH ALL IS AS AGREED -/
def LB (c ua ga : Nat) (SL SR bS bR uS uP mU mP aS aD aL mA mB mM : Nat → Int32) : Prop :=
  c ≤ 5 ∧ ua ≤ 4 ∧ ga ≤ 6 ∧ (∀ s, s < c → ∃ n r : Nat, 2 ≤ n ∧ n ≤ 12 ∧ r < 2 ^ n ∧ SL s = nI n ∧ SR s = nI r ∧ bS s = nI n ∧ bR s = nI r) ∧
  (∀ i, i < ua → ∃ s n k : Nat, s < c ∧ SL s = nI n ∧ n ≤ 12 ∧ k < n ∧ uS i = nI s ∧ uP i = nI k ∧ mU i = nI s ∧ mP i = nI k) ∧
  (∀ i, i < ga → ∃ s m l : Nat, s < c ∧ m ≤ 36 ∧ l ≤ 36 ∧ aS i = nI s ∧ aD i = nI m ∧ aL i = nI l ∧ mA i = nI s ∧ mB i = nI m ∧ mM i = nI l)
theorem rv_sh31 {k : Nat} (hk : k < 31) : ((nI k &&& 31).toBitVec.smod 32).toNat = k :=
  of_decide_eq_true (allB_at (N := 31) (p := fun k => decide (((nI k &&& 31).toBitVec.smod 32).toNat = k)) (by decide +kernel) k hk)
theorem rb_bit {x k : Nat} (hx : x < 2 ^ 31) (hk : k < 31) : (nI x >>> (nI k &&& 31)) &&& (1 : Int32) = nI (x / 2 ^ k % 2) := by
  rw [pk_shrN hx _ _ (rv_sh31 hk), pk_andN (Nat.lt_of_le_of_lt (Nat.div_le_self _ _) (by omega)) 1 rfl]
theorem x1_has {x k : Nat} (hx : x < 2 ^ 31) (hk : k < 31) : f_X1_has (nI x) (nI k) = some (nI (x / 2 ^ k % 2)) := by
  have l : x / 2 ^ k % 2 < 2 := Nat.mod_lt _ (by decide)
  rw [f_X1_has, rb_bit hx hk]
  generalize x / 2 ^ k % 2 = b at *
  rcases (by omega : b = 0 ∨ b = 1) with rfl | rfl <;> rfl
