/-! SUMS THAT GO ROUND; LAYERS ALIKE; rows looked at otherwise -/
theorem sm_first (f : Nat → Nat) : ∀ p, sm f (p + 1) = f 0 + sm (fun k => f (k + 1)) p
  | 0 => by rw [sm, sm, sm]; omega
  | p + 1 => by rw [sm, sm_first f p, sm]; omega
theorem sm_rot {f : Nat → Nat} {p : Nat} (h : ∀ k, f (k + p) = f k) : sm (fun k => f (k + 1)) p = sm f p := by
  have a := sm_first f p
  rw [sm] at a
  have b := h 0
  rw [Nat.zero_add] at b
  omega
theorem sm_shift {f : Nat → Nat} {p : Nat} (h : ∀ k, f (k + p) = f k) : ∀ a, sm (fun k => f (k + a)) p = sm f p
  | 0 => rfl
  | a + 1 => by
    have r := sm_rot (f := fun k => f (k + a)) (p := p) (fun k => by show f (k + p + a) = f (k + a); rw [show k + p + a = k + a + p by omega, h])
    rw [← sm_shift h a, ← r]
    exact sm_congr p (fun k _ => by show f (k + (a + 1)) = f (k + 1 + a); congr 1; omega)
theorem sm_rev (g : Nat → Nat) (A : Nat) : ∀ p, p ≤ A + 1 → sm (fun k => g (A - k)) p = sm (fun k => g (k + (A + 1 - p))) p
  | 0, _ => rfl
  | p + 1, hp => by
    rw [sm, sm_rev g A p (by omega), sm_first]
    rw [sm_congr (f := fun k => g (k + (A + 1 - p))) (g := fun k => g (k + 1 + (A + 1 - (p + 1)))) p (fun k _ => by show g _ = g _; congr 1; omega)]
    show sm _ p + g (A - p) = g (0 + (A + 1 - (p + 1))) + sm _ p
    rw [show 0 + (A + 1 - (p + 1)) = A - p by omega]
    omega
theorem sm_mult {f : Nat → Nat} {n : Nat} (h : ∀ k, f (k + n) = f k) : ∀ q, sm f (n * q) = q * sm f n
  | 0 => by rw [Nat.mul_zero, Nat.zero_mul]; rfl
  | q + 1 => by
    have sp : ∀ b a, sm f (a + b) = sm f a + sm (fun k => f (k + a)) b := by
      intro b
      induction b with
      | zero => intro a; rfl
      | succ b ih => intro a; rw [← Nat.add_assoc, sm, sm, ih a, Nat.add_comm b a]; omega
    rw [Nat.mul_succ, sp, sm_mult h q, Nat.succ_mul]
    have per : ∀ q k, f (k + n * q) = f k := by
      intro q
      induction q with
      | zero => intro k; rfl
      | succ q ih => intro k; rw [Nat.mul_succ, ← Nat.add_assoc, h, ih]
    rw [sm_congr (f := fun k => f (k + n * q)) (g := f) n (fun k _ => per q k)]
section AGR
variable {n r m : Nat}
/-- 1: layer k is alike the one m on -/
abbrev ag1 (n r m k : Nat) : Nat := if rLt n r k = rLt n r (m + k) then 1 else 0
abbrev Ag (n r m : Nat) : Nat := rAg n r m (rRep n r)
theorem rAg_sm (n r m : Nat) : ∀ K, rAg n r m K = sm (ag1 n r m) K
  | 0 => rfl
  | K + 1 => by rw [rAg, rAg_sm n r m K, sm]
theorem ag1_per (h1 : 1 ≤ n) (h2 : n ≤ 12) (hr : r < 2 ^ n) (k : Nat) : ag1 n r m (k + rRep n r) = ag1 n r m k := by
  unfold ag1
  rw [rLt_per h1 h2 hr, show m + (k + rRep n r) = (m + k) + rRep n r by omega, rLt_per h1 h2 hr]
theorem Ag_back (h1 : 1 ≤ n) (h2 : n ≤ 12) (hr : r < 2 ^ n) (hm : m ≤ rRep n r) : Ag n r m = Ag n r (rRep n r - m) := by
  unfold Ag
  rw [rAg_sm, rAg_sm, ← sm_shift (fun k => ag1_per (m := m) h1 h2 hr k) (rRep n r - m)]
  refine sm_congr _ (fun k _ => ?_)
  unfold ag1
  rw [show m + (k + (rRep n r - m)) = k + rRep n r by omega, rLt_per h1 h2 hr, Nat.add_comm k]
  by_cases e : rLt n r k = rLt n r (rRep n r - m + k)
  · rw [if_pos e, if_pos e.symm]
  · rw [if_neg e, if_neg (Ne.symm e)]
theorem Ag_all (h1 : 1 ≤ n) (h2 : n ≤ 12) (hr : r < 2 ^ n) : Ag n r (rRep n r) = rRep n r := by
  have : ∀ K, rAg n r (rRep n r) K = K := by
    intro K
    induction K with
    | zero => rfl
    | succ K ih => rw [rAg, ih, if_pos (by rw [Nat.add_comm (rRep n r), rLt_per h1 h2 hr])]
  exact this _
theorem rLt_ne (n r k : Nat) : rLt n r k ≠ rLt n r (k + 1) := by
  have h := rLt_lt n r k
  rw [rLt]
  split <;> omega
theorem Ag_1 (n r : Nat) : Ag n r 1 = 0 := by
  have : ∀ K, rAg n r 1 K = 0 := by
    intro K
    induction K with
    | zero => rfl
    | succ K ih => rw [rAg, ih, if_neg (by rw [Nat.add_comm 1]; exact rLt_ne n r K)]
  exact this _
theorem rLt_2 (h1 : 1 ≤ n) (k : Nat) : rLt n r k = rLt n r (k + 2) ↔ rX n r (k + 1) = 1 := by
  have h := rLt_lt n r k
  have s1 := rS_lt n r k
  have s2 := rS_lt n r (k + 1)
  have e : rX n r (k + 1) = if rS n r (k + 1) = rS n r k then 0 else 1 := by
    unfold rX
    rw [show k + 1 + n - 1 = k + n by omega, rS_per]
  rw [e, show k + 2 = (k + 1) + 1 by omega, rLt, rLt]
  rcases (by omega : rS n r k = 0 ∨ rS n r k = 1) with a | a <;> rcases (by omega : rS n r (k + 1) = 0 ∨ rS n r (k + 1) = 1) with b | b <;> rw [a, b] <;> simp <;> omega
theorem rXc_sm (n r : Nat) : ∀ K, rXc n r K = sm (rX n r) K
  | 0 => rfl
  | K + 1 => by rw [rXc, rXc_sm n r K, sm]
theorem Ag_2 (h1 : 1 ≤ n) (h2 : n ≤ 12) (hr : r < 2 ^ n) : Ag n r 2 * n = rH n r * rRep n r := by
  have per : ∀ k, rX n r (k + n) = rX n r k := fun k => rX_per h1
  have e : Ag n r 2 = sm (rX n r) (rRep n r) := by
    unfold Ag
    rw [rAg_sm, ← sm_shift (f := rX n r) (p := rRep n r) (fun k => by
      unfold rRep
      split
      · exact per k
      · rw [show k + 3 * n = k + n + n + n by omega, per, per, per]) 1]
    refine sm_congr _ (fun k _ => ?_)
    unfold ag1
    have a := rLt_2 (r := r) h1 k
    rw [Nat.add_comm 2]
    rcases rX_01 n r (k + 1) with z | z
    · rw [z, if_neg (fun y => by have := a.mp y; omega)]
    · rw [z, if_pos (a.mpr z)]
  rw [e, ← rXc_H h1 h2 hr, rXc_sm]
  unfold rRep
  split
  · rfl
  · rw [show 3 * n = n * 3 by omega, sm_mult per 3, Nat.mul_comm n 3, ← Nat.mul_assoc, Nat.mul_comm 3]
end AGR
section LOOK
variable {n r : Nat}
theorem rep_T (h1 : 1 ≤ n) (h2 : n ≤ 12) (hr : r < 2 ^ n) : rRep n (rT n r) = rRep n r := of_decide_eq_true (allR_at (p := fun n r => decide (rRep n (rT n r) = rRep n r)) (by decide +kernel) h1 h2 hr)
theorem rep_W (h1 : 1 ≤ n) (h2 : n ≤ 12) (hr : r < 2 ^ n) : rRep n (rW n r) = rRep n r := of_decide_eq_true (allR_at (p := fun n r => decide (rRep n (rW n r) = rRep n r)) (by decide +kernel) h1 h2 hr)
theorem rep_V (h1 : 1 ≤ n) (h2 : n ≤ 12) (hr : r < 2 ^ n) : rRep n (rV n r) = rRep n r := of_decide_eq_true (allR_at (p := fun n r => decide (rRep n (rV n r) = rRep n r)) (by decide +kernel) h1 h2 hr)
theorem rS_W (h1 : 1 ≤ n) (h2 : n ≤ 12) (hr : r < 2 ^ n) (k : Nat) : rS n (rW n r) k = 1 - rS n r k := by
  have h := of_decide_eq_true (allB_at (allR_at (p := fun n r => allB n (fun k => decide (rS n (rW n r) k = 1 - rS n r k))) (by decide +kernel) h1 h2 hr) (k % n) (Nat.mod_lt _ (by omega)))
  rwa [rS_mod, rS_mod] at h
theorem rS_V0 (h1 : 1 ≤ n) (h2 : n ≤ 12) (hr : r < 2 ^ n) {k : Nat} (hk : k < n) : rS n (rV n r) k = rS n r (n - 1 - k) :=
  of_decide_eq_true (allB_at (allR_at (p := fun n r => allB n (fun k => decide (rS n (rV n r) k = rS n r (n - 1 - k)))) (by decide +kernel) h1 h2 hr) k hk)
theorem rS_V (h1 : 1 ≤ n) (h2 : n ≤ 12) (hr : r < 2 ^ n) (q : Nat) {k : Nat} (hk : k < n * q) : rS n (rV n r) k = rS n r (n * q - 1 - k) := by
  rw [← rS_mod n (rV n r) k, rS_V0 h1 h2 hr (Nat.mod_lt _ (by omega)), ← rS_mod n r (n * q - 1 - k)]
  congr 1
  have d := Nat.div_add_mod k n
  have m := Nat.mod_lt k (show 0 < n by omega)
  have hq : k / n + 1 ≤ q := (Nat.div_lt_iff_lt_mul (by omega)).mpr (by rw [Nat.mul_comm]; exact hk)
  have e : n * q - 1 - k = n - 1 - k % n + n * (q - (k / n + 1)) := by
    rw [Nat.mul_sub, Nat.mul_add, Nat.mul_one]
    have : n * (k / n) + n ≤ n * q := by rw [← Nat.mul_succ]; exact Nat.mul_le_mul_left _ hq
    omega
  rw [e, Nat.add_mul_mod_self_left, Nat.mod_eq_of_lt (show n - 1 - k % n < n by omega)]
theorem Lt_T (h1 : 1 ≤ n) (h2 : n ≤ 12) (hr : r < 2 ^ n) : ∀ k, (rLt n (rT n r) k + rLt n r 1) % 3 = rLt n r (k + 1)
  | 0 => by
    have h := rLt_lt n r 1
    rw [show rLt n (rT n r) 0 = 0 from rfl, Nat.zero_add, Nat.mod_eq_of_lt h]
  | k + 1 => by
    have h := Lt_T h1 h2 hr k
    have e : rLt n (rT n r) (k + 1) = (rLt n (rT n r) k + (if rS n r (k + 1) = 0 then 2 else 1)) % 3 := by rw [rLt, rT_S h1 h2 hr]
    have e2 : rLt n r (k + 1 + 1) = (rLt n r (k + 1) + (if rS n r (k + 1) = 0 then 2 else 1)) % 3 := rfl
    rw [e, e2, ← h]
    omega
theorem Lt_W (h1 : 1 ≤ n) (h2 : n ≤ 12) (hr : r < 2 ^ n) : ∀ k, (rLt n (rW n r) k + rLt n r k) % 3 = 0
  | 0 => rfl
  | k + 1 => by
    have h := Lt_W h1 h2 hr k
    have s := rS_lt n r k
    rw [rLt, rLt, rS_W h1 h2 hr]
    rcases (by omega : rS n r k = 0 ∨ rS n r k = 1) with a | a <;> rw [a] <;> simp <;> omega
theorem Lt_V (h1 : 1 ≤ n) (h2 : n ≤ 12) (hr : r < 2 ^ n) (q : Nat) : ∀ k, k ≤ n * q → (rLt n (rV n r) k + rLt n r (n * q - k)) % 3 = rLt n r (n * q)
  | 0, _ => by
    rw [show rLt n (rV n r) 0 = 0 from rfl, Nat.zero_add, Nat.sub_zero, Nat.mod_eq_of_lt (rLt_lt _ _ _)]
  | k + 1, hk => by
    have h := Lt_V h1 h2 hr q k (by omega)
    have e1 : n * q - k = (n * q - 1 - k) + 1 := by omega
    have e2 : rLt n (rV n r) (k + 1) = (rLt n (rV n r) k + (if rS n r (n * q - 1 - k) = 0 then 2 else 1)) % 3 := by rw [rLt, rS_V h1 h2 hr q (by omega)]
    rw [e1, rLt] at h
    rw [e2, show n * q - (k + 1) = n * q - 1 - k by omega, ← h]
    omega
theorem Ag_T (h1 : 1 ≤ n) (h2 : n ≤ 12) (hr : r < 2 ^ n) (m : Nat) : Ag n (rT n r) m = Ag n r m := by
  unfold Ag
  rw [rep_T h1 h2 hr, rAg_sm, rAg_sm, ← sm_shift (fun k => ag1_per (m := m) h1 h2 hr k) 1]
  refine sm_congr _ (fun k _ => ?_)
  have a := Lt_T h1 h2 hr k
  have b := Lt_T h1 h2 hr (m + k)
  have l1 := rLt_lt n (rT n r) k
  have l2 := rLt_lt n (rT n r) (m + k)
  unfold ag1
  rw [show m + (k + 1) = m + k + 1 by omega]
  by_cases e : rLt n (rT n r) k = rLt n (rT n r) (m + k)
  · rw [if_pos e, if_pos (by rw [← a, ← b, e])]
  · rw [if_neg e, if_neg (by rw [← a, ← b]; omega)]
theorem Ag_W (h1 : 1 ≤ n) (h2 : n ≤ 12) (hr : r < 2 ^ n) (m : Nat) : Ag n (rW n r) m = Ag n r m := by
  unfold Ag
  rw [rep_W h1 h2 hr, rAg_sm, rAg_sm]
  refine sm_congr _ (fun k _ => ?_)
  have a := Lt_W h1 h2 hr k
  have b := Lt_W h1 h2 hr (m + k)
  have l1 := rLt_lt n (rW n r) k
  have l2 := rLt_lt n (rW n r) (m + k)
  have l3 := rLt_lt n r k
  have l4 := rLt_lt n r (m + k)
  unfold ag1
  by_cases e : rLt n (rW n r) k = rLt n (rW n r) (m + k)
  · rw [if_pos e, if_pos (by omega)]
  · rw [if_neg e, if_neg (by omega)]
theorem Ag_V (h1 : 1 ≤ n) (h2 : n ≤ 12) (hr : r < 2 ^ n) (m : Nat) : Ag n (rV n r) m = Ag n r m := by
  have rp := rRep_le (n := n) (r := r) h2
  have big : rRep n r + m ≤ n * (36 + m) := by
    have : 36 + m ≤ n * (36 + m) := Nat.le_mul_of_pos_left _ (by omega)
    omega
  generalize hK : n * (36 + m) = K at big
  unfold Ag
  rw [rep_V h1 h2 hr, rAg_sm, rAg_sm]
  have step : sm (ag1 n (rV n r) m) (rRep n r) = sm (fun k => ag1 n r m (K - m - k)) (rRep n r) := by
    refine sm_congr _ (fun k hk => ?_)
    have a := Lt_V h1 h2 hr (36 + m) k (by rw [hK]; omega)
    have b := Lt_V h1 h2 hr (36 + m) (m + k) (by rw [hK]; omega)
    rw [hK] at a b
    have l1 := rLt_lt n (rV n r) k
    have l2 := rLt_lt n (rV n r) (m + k)
    have l3 := rLt_lt n r (K - k)
    have l4 := rLt_lt n r (K - (m + k))
    show (if rLt n (rV n r) k = rLt n (rV n r) (m + k) then 1 else 0) = (if rLt n r (K - m - k) = rLt n r (m + (K - m - k)) then 1 else 0)
    rw [show m + (K - m - k) = K - k by omega, show K - m - k = K - (m + k) by omega]
    by_cases e : rLt n (rV n r) k = rLt n (rV n r) (m + k)
    · rw [if_pos e, if_pos (by omega)]
    · rw [if_neg e, if_neg (by omega)]
  rw [step, sm_rev (ag1 n r m) (K - m) _ (by omega)]
  exact sm_shift (fun k => ag1_per h1 h2 hr k) _
theorem Ag_L {a : Nat} (h1 : 1 ≤ n) (h2 : n ≤ 12) (hr : r < 2 ^ n) (m : Nat) : Ag n (rL n r a) m = Ag n r m := by
  unfold rL
  split
  · rfl
  · split
    · exact Ag_W h1 h2 hr m
    · split
      · rw [Ag_W h1 h2 (rV_lt h1 h2 hr)]; exact Ag_V h1 h2 hr m
      · exact Ag_V h1 h2 hr m
theorem Ag_Ti (h1 : 1 ≤ n) (h2 : n ≤ 12) (hr : r < 2 ^ n) (m : Nat) : ∀ i, Ag n (rTi n r i) m = Ag n r m
  | 0 => rfl
  | i + 1 => by rw [rTi, Ag_T h1 h2 (rTi_lt h1 h2 hr i), Ag_Ti h1 h2 hr m i]
theorem rep_L {a : Nat} (h1 : 1 ≤ n) (h2 : n ≤ 12) (hr : r < 2 ^ n) : rRep n (rL n r a) = rRep n r := by
  unfold rL
  split
  · rfl
  · split
    · exact rep_W h1 h2 hr
    · split
      · rw [rep_W h1 h2 (rV_lt h1 h2 hr)]; exact rep_V h1 h2 hr
      · exact rep_V h1 h2 hr
theorem rep_Ti (h1 : 1 ≤ n) (h2 : n ≤ 12) (hr : r < 2 ^ n) : ∀ i, rRep n (rTi n r i) = rRep n r
  | 0 => rfl
  | i + 1 => by rw [rTi, rep_T h1 h2 (rTi_lt h1 h2 hr i), rep_Ti h1 h2 hr i]
end LOOK
