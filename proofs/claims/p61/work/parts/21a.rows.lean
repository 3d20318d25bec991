/-! ROWS OF STEPS AS NATURAL NUMBERS: n steps (1 to 12), r below 2^n; what a kernel can check one by one -/
def allB : Nat → (Nat → Bool) → Bool
  | 0, _ => true
  | n + 1, p => p n && allB n p
theorem allB_at {p : Nat → Bool} : ∀ {N : Nat}, allB N p = true → ∀ i, i < N → p i = true
  | 0, _, i, hi => absurd hi (Nat.not_lt_zero i)
  | n + 1, h, i, hi => by
    simp only [allB, Bool.and_eq_true] at h
    rcases Nat.lt_or_ge i n with q | q
    · exact allB_at h.2 i q
    · have : i = n := by omega
      rw [this]; exact h.1
def allR (p : Nat → Nat → Bool) : Bool := allB 12 (fun m => allB (2 ^ (m + 1)) (fun r => p (m + 1) r))
theorem allR_at {p : Nat → Nat → Bool} (h : allR p = true) {n r : Nat} (h1 : 1 ≤ n) (h2 : n ≤ 12) (hr : r < 2 ^ n) : p n r = true := by
  have a := allB_at h (n - 1) (by omega)
  rw [show n - 1 + 1 = n by omega] at a
  exact allB_at a r hr
def rT (n r : Nat) : Nat := 2 * r % 2 ^ n + r / 2 ^ (n - 1)
def rS (n r k : Nat) : Nat := r / 2 ^ (n - 1 - k % n) % 2
def rPc : Nat → Nat → Nat
  | 0, _ => 0
  | k + 1, r => r % 2 + rPc k (r / 2)
abbrev rP (r : Nat) : Nat := rPc 12 r
def rRep (n r : Nat) : Nat := if (rP r + n) % 3 = 0 then n else 3 * n
theorem rT_lt {n r : Nat} (h1 : 1 ≤ n) (h2 : n ≤ 12) (hr : r < 2 ^ n) : rT n r < 2 ^ n := of_decide_eq_true (allR_at (p := fun n r => decide (rT n r < 2 ^ n)) (by decide +kernel) h1 h2 hr)
theorem rT_S {n r k : Nat} (h1 : 1 ≤ n) (h2 : n ≤ 12) (hr : r < 2 ^ n) : rS n (rT n r) k = rS n r (k + 1) := by
  have h := allR_at (p := fun n r => allB n (fun k => decide (rS n (rT n r) k = rS n r (k + 1)))) (by decide +kernel) h1 h2 hr
  have hk := of_decide_eq_true (allB_at h (k % n) (Nat.mod_lt _ (by omega)))
  have e1 : rS n (rT n r) (k % n) = rS n (rT n r) k := by unfold rS; rw [Nat.mod_mod]
  have e2 : rS n r (k % n + 1) = rS n r (k + 1) := by unfold rS; rw [Nat.mod_add_mod]
  rw [← e1, hk, e2]
theorem rS_lt (n r k : Nat) : rS n r k < 2 := Nat.mod_lt _ (by decide)
theorem rS_per (n r k : Nat) : rS n r (k + n) = rS n r k := by unfold rS; rw [Nat.add_mod_right]
theorem x8_turned {n r : Nat} (h1 : 1 ≤ n) (h2 : n ≤ 12) (hr : r < 2 ^ n) : f_X8_turned (nI r) (nI n) = some (nI (rT n r)) := of_decide_eq_true (allR_at (p := fun n r => decide (f_X8_turned (nI r) (nI n) = some (nI (rT n r)))) (by decide +kernel) h1 h2 hr)
theorem x8_startsUp {n r : Nat} (h1 : 1 ≤ n) (h2 : n ≤ 12) (hr : r < 2 ^ n) : f_X8_startsUp (nI r) (nI n) = some (nI (rS n r 0)) := of_decide_eq_true (allR_at (p := fun n r => decide (f_X8_startsUp (nI r) (nI n) = some (nI (rS n r 0)))) (by decide +kernel) h1 h2 hr)
theorem j6_bitCount {r : Nat} (hr : r < 4096) : f_J6_bitCount_0f7a4 (nI r) = some (nI (rP r)) := of_decide_eq_true (allB_at (N := 4096) (p := fun r => decide (f_J6_bitCount_0f7a4 (nI r) = some (nI (rP r)))) (by decide +kernel) r hr)
