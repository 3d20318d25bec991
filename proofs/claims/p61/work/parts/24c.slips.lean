/-! THE FEWEST SLIPS: the same both ways; none just if alike -/
section HD
variable {n x y : Nat}
theorem xr_bit (x y s : Nat) : Nat.xor x y / 2 ^ s % 2 = if x / 2 ^ s % 2 = y / 2 ^ s % 2 then 0 else 1 := by
  have h : (x ^^^ y).testBit s = ((x.testBit s) ^^ (y.testBit s)) := Nat.testBit_xor x y s
  rw [Nat.testBit_eq_decide_div_mod_eq, Nat.testBit_eq_decide_div_mod_eq, Nat.testBit_eq_decide_div_mod_eq] at h
  have e : Nat.xor x y = x ^^^ y := rfl
  rw [e]
  have a := Nat.mod_lt (x / 2 ^ s) (show 0 < 2 by decide)
  have b := Nat.mod_lt (y / 2 ^ s) (show 0 < 2 by decide)
  have c := Nat.mod_lt ((x ^^^ y) / 2 ^ s) (show 0 < 2 by decide)
  rcases (by omega : x / 2 ^ s % 2 = 0 ∨ x / 2 ^ s % 2 = 1) with p | p <;> rcases (by omega : y / 2 ^ s % 2 = 0 ∨ y / 2 ^ s % 2 = 1) with q | q <;> rcases (by omega : (x ^^^ y) / 2 ^ s % 2 = 0 ∨ (x ^^^ y) / 2 ^ s % 2 = 1) with w | w <;> rw [p, q, w] at h <;> rw [p, q, w] <;> first | rfl | exact absurd h (by decide)
def hd (n x y : Nat) : Nat := sm (fun k => if rS n x k = rS n y k then 0 else 1) n
theorem rP_sm {z : Nat} (h1 : 1 ≤ n) (h2 : n ≤ 12) (hz : z < 2 ^ n) : rP z = sm (rS n z) n := of_decide_eq_true (allR_at (p := fun n r => decide (rP r = sm (rS n r) n)) (by decide +kernel) h1 h2 hz)
theorem hd_P (h1 : 1 ≤ n) (h2 : n ≤ 12) (hx : x < 2 ^ n) (hy : y < 2 ^ n) : rP (Nat.xor x y) = hd n x y := by
  rw [rP_sm h1 h2 (rx_lt hx hy)]
  exact sm_congr n (fun k _ => xr_bit x y _)
theorem hd_sym (n x y : Nat) : hd n x y = hd n y x := sm_congr n (fun k _ => by
  show (if rS n x k = rS n y k then 0 else 1) = (if rS n y k = rS n x k then 0 else 1)
  by_cases e : rS n x k = rS n y k
  · rw [if_pos e, if_pos e.symm]
  · rw [if_neg e, if_neg (Ne.symm e)])
theorem hd_T (h1 : 1 ≤ n) (h2 : n ≤ 12) (hx : x < 2 ^ n) (hy : y < 2 ^ n) : hd n (rT n x) (rT n y) = hd n x y := by
  unfold hd
  rw [← sm_rot (f := fun k => if rS n x k = rS n y k then 0 else 1) (p := n) (fun k => by
    show (if rS n x (k + n) = rS n y (k + n) then 0 else 1) = _
    rw [rS_per, rS_per])]
  exact sm_congr n (fun k _ => by
    show (if rS n (rT n x) k = rS n (rT n y) k then 0 else 1) = _
    rw [rT_S h1 h2 hx, rT_S h1 h2 hy])
theorem hd_Ti (h1 : 1 ≤ n) (h2 : n ≤ 12) (hx : x < 2 ^ n) (hy : y < 2 ^ n) : ∀ i, hd n (rTi n x i) (rTi n y i) = hd n x y
  | 0 => rfl
  | i + 1 => by rw [rTi, rTi, hd_T h1 h2 (rTi_lt h1 h2 hx i) (rTi_lt h1 h2 hy i), hd_Ti h1 h2 hx hy i]
theorem hd_W (h1 : 1 ≤ n) (h2 : n ≤ 12) (hx : x < 2 ^ n) (hy : y < 2 ^ n) : hd n (rW n x) (rW n y) = hd n x y := sm_congr n (fun k _ => by
  have a := rS_lt n x k
  have b := rS_lt n y k
  show (if rS n (rW n x) k = rS n (rW n y) k then 0 else 1) = (if rS n x k = rS n y k then 0 else 1)
  rw [rS_W h1 h2 hx, rS_W h1 h2 hy]
  by_cases e : rS n x k = rS n y k
  · rw [if_pos e, if_pos (by omega)]
  · rw [if_neg e, if_neg (by omega)])
theorem hd_V (h1 : 1 ≤ n) (h2 : n ≤ 12) (hx : x < 2 ^ n) (hy : y < 2 ^ n) : hd n (rV n x) (rV n y) = hd n x y := by
  have step : hd n (rV n x) (rV n y) = sm (fun k => (fun j => if rS n x j = rS n y j then 0 else 1) (n - 1 - k)) n := sm_congr n (fun k hk => by
    show (if rS n (rV n x) k = rS n (rV n y) k then 0 else 1) = (if rS n x (n - 1 - k) = rS n y (n - 1 - k) then 0 else 1)
    rw [rS_V0 h1 h2 hx hk, rS_V0 h1 h2 hy hk])
  rw [step, sm_rev (fun j => if rS n x j = rS n y j then 0 else 1) (n - 1) n (by omega), show n - 1 + 1 - n = 0 by omega]
  rfl
theorem hd_L {a : Nat} (h1 : 1 ≤ n) (h2 : n ≤ 12) (hx : x < 2 ^ n) (hy : y < 2 ^ n) : hd n (rL n x a) (rL n y a) = hd n x y := by
  unfold rL
  split
  · rfl
  · split
    · exact hd_W h1 h2 hx hy
    · split
      · rw [hd_W h1 h2 (rV_lt h1 h2 hx) (rV_lt h1 h2 hy)]; exact hd_V h1 h2 hx hy
      · exact hd_V h1 h2 hx hy
end HD
section DA
variable {n r t x : Nat}
theorem rDi_all (n r s z : Nat) : ∀ K i, i < K → rDi n r s z K ≤ rP (Nat.xor r (rTi n s i))
  | 0, i, h => absurd h (Nat.not_lt_zero _)
  | K + 1, i, h => by
    rw [rDi]
    by_cases e : i = K
    · rw [e]; exact Nat.min_le_right _ _
    · exact Nat.le_trans (Nat.min_le_left _ _) (rDi_all n r s z K i (by omega))
theorem rDi_one (n r s z : Nat) : ∀ K, rDi n r s z K = z ∨ ∃ i, i < K ∧ rDi n r s z K = rP (Nat.xor r (rTi n s i))
  | 0 => Or.inl rfl
  | K + 1 => by
    rw [rDi]
    have m : Nat.min (rDi n r s z K) (rP (Nat.xor r (rTi n s K))) = rDi n r s z K ∨ Nat.min (rDi n r s z K) (rP (Nat.xor r (rTi n s K))) = rP (Nat.xor r (rTi n s K)) := by
      rcases Nat.le_total (rDi n r s z K) (rP (Nat.xor r (rTi n s K))) with g | g
      · exact Or.inl (Nat.min_eq_left g)
      · exact Or.inr (Nat.min_eq_right g)
    rcases m with m | m
    · rw [m]
      rcases rDi_one n r s z K with h | ⟨i, i1, i2⟩
      · exact Or.inl h
      · exact Or.inr ⟨i, by omega, i2⟩
    · exact Or.inr ⟨K, by omega, m⟩
theorem rDa_all (n r t x z : Nat) : ∀ K a i, a < K → rSub a x = 1 → i < n → rDa n r t x z K ≤ rP (Nat.xor r (rTi n (rL n t a) i))
  | 0, a, i, h, _, _ => absurd h (Nat.not_lt_zero _)
  | K + 1, a, i, h, hs, hi => by
    rw [rDa]
    by_cases e : a = K
    · subst e
      rw [if_neg (by omega)]
      exact rDi_all n r (rL n t a) _ n i hi
    · have ih := rDa_all n r t x z K a i (by omega) hs hi
      split
      · exact ih
      · exact Nat.le_trans (rDi_le n r _ _ n) ih
theorem rDa_one (n r t x z : Nat) : ∀ K, rDa n r t x z K = z ∨ ∃ a i, a < K ∧ rSub a x = 1 ∧ i < n ∧ rDa n r t x z K = rP (Nat.xor r (rTi n (rL n t a) i))
  | 0 => Or.inl rfl
  | K + 1 => by
    rw [rDa]
    have ih : rDa n r t x z K = z ∨ ∃ a i, a < K + 1 ∧ rSub a x = 1 ∧ i < n ∧ rDa n r t x z K = rP (Nat.xor r (rTi n (rL n t a) i)) := by
      rcases rDa_one n r t x z K with h | ⟨a, i, h1, h2, h3, h4⟩
      · exact Or.inl h
      · exact Or.inr ⟨a, i, by omega, h2, h3, h4⟩
    by_cases g : rSub K x = 0
    · rw [if_pos g]; exact ih
    · rw [if_neg g]
      have gs := rSub_01 K x
      rcases rDi_one n r (rL n t K) (rDa n r t x z K) n with h | ⟨i, i1, i2⟩
      · rw [h]; exact ih
      · exact Or.inr ⟨K, i, by omega, by omega, i1, i2⟩
theorem rDa_back (h1 : 1 ≤ n) (h2 : n ≤ 12) (hr : r < 2 ^ n) (ht : t < 2 ^ n) (hx : x < 4) : rDa n t r x n 4 ≤ rDa n r t x n 4 := by
  rcases rDa_one n r t x n 4 with h | ⟨a, i, a1, a2, a3, a4⟩
  · rw [h]; exact rDa_le 4
  · rw [a4]
    have hl := rL_lt (a := a) h1 h2 ht
    have hy := rTi_lt h1 h2 hl i
    have hla := rL_lt (a := a) h1 h2 hy
    have m1 : rM0 n (rTi n (rL n t a) i) = rM0 n (rL n t a) := rM0_Ti h1 h2 hl i
    have m2 := rM0_L h1 h2 hy hl a1 m1
    rw [rL_L h1 h2 ht a1 a1, show Nat.xor a a = 0 from Nat.xor_self a] at m2
    have m3 : rM0 n t = rM0 n (rL n (rTi n (rL n t a) i) a) := m2.symm
    obtain ⟨j, j1, j2⟩ := (rM0_iff h1 h2 hla ht).mp m3
    have jn : j < n := Nat.lt_of_lt_of_le j1 (rPd_spec h1 h2 hla).2.2.1
    have e : rP (Nat.xor r (rTi n (rL n t a) i)) = rP (Nat.xor t (rTi n (rL n r a) j)) := by
      rw [hd_P h1 h2 hr hy, hd_P h1 h2 ht (rTi_lt h1 h2 (rL_lt h1 h2 hr) j), hd_sym n t, ← hd_L (a := a) h1 h2 hr hy, ← hd_Ti h1 h2 (rL_lt h1 h2 hr) hla j, j2]
    rw [e]
    exact rDa_all n t r x n 4 a j a1 a2 jn
theorem rDa_sym (h1 : 1 ≤ n) (h2 : n ≤ 12) (hr : r < 2 ^ n) (ht : t < 2 ^ n) (hx : x < 4) : rDa n r t x n 4 = rDa n t r x n 4 :=
  Nat.le_antisymm (rDa_back h1 h2 ht hr hx) (rDa_back h1 h2 hr ht hx)
theorem rP_0 {z : Nat} (hz : z < 4096) (h : rP z = 0) : z = 0 := by
  have k := allB_at (N := 4096) (p := fun z => z == 0 || decide (¬ rP z = 0)) (by decide +kernel) z hz
  simp only [Bool.or_eq_true, beq_iff_eq, decide_eq_true_eq] at k
  rcases k with k | k
  · exact k
  · exact absurd h k
theorem rDa_0 (h1 : 2 ≤ n) (h2 : n ≤ 12) (hr : r < 2 ^ n) (ht : t < 2 ^ n) (hx : x < 4) : rDa n r t x n 4 = 0 ↔ rLA n r x 4 = rLA n t x 4 := by
  have h1' : 1 ≤ n := by omega
  constructor
  · intro h
    rcases rDa_one n r t x n 4 with g | ⟨a, i, a1, a2, a3, a4⟩
    · omega
    · rw [h] at a4
      have hl := rL_lt (a := a) h1' h2 ht
      have hy := rTi_lt h1' h2 hl i
      have z := rP_0 (r4096 h2 (rx_lt hr hy)) a4.symm
      have e : r = rTi n (rL n t a) i := by
        have k := xor_2 r (rTi n (rL n t a) i)
        rw [z] at k
        rw [← k]
        exact (Nat.zero_xor _)
      exact (rLA_iff h1' h2 ht hr hx).mpr ⟨a, a1, a2, by rw [e]; exact rM0_Ti h1' h2 hl i⟩
  · intro h
    obtain ⟨a, a1, a2, a3⟩ := (rLA_iff h1' h2 ht hr hx).mp h
    have hl := rL_lt (a := a) h1' h2 ht
    obtain ⟨i, i1, i2⟩ := (rM0_iff h1' h2 hl hr).mp a3
    have jn : i < n := Nat.lt_of_lt_of_le i1 (rPd_spec h1' h2 hl).2.2.1
    have k := rDa_all n r t x n 4 a i a1 a2 jn
    rw [i2, show Nat.xor r r = 0 from Nat.xor_self r] at k
    exact Nat.le_zero.mp k

end DA
