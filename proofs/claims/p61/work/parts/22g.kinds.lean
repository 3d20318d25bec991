/-! KINDS -/
/-! a row that is the least of its kind -/
theorem rMn_le {n s : Nat} : ∀ i j, j ≤ i → rMn n s i ≤ rTi n s j
  | 0, j, h => by rw [show j = 0 by omega]; exact Nat.le_refl _
  | i + 1, j, h => by
    by_cases e : j = i + 1
    · rw [e]; exact Nat.min_le_right _ _
    · exact Nat.le_trans (Nat.min_le_left _ _) (rMn_le i j (by omega))
theorem rMn_ge {n s m : Nat} : ∀ i, (∀ j, j ≤ i → m ≤ rTi n s j) → m ≤ rMn n s i
  | 0, h => h 0 (Nat.le_refl _)
  | i + 1, h => Nat.le_min.mpr ⟨rMn_ge i (fun j hj => h j (by omega)), h (i + 1) (Nat.le_refl _)⟩
theorem rLA_mono (n r x : Nat) : ∀ a d, rLA n r x (a + d) ≤ rLA n r x a
  | _, 0 => Nat.le_refl _
  | a, d + 1 => by
    refine Nat.le_trans ?_ (rLA_mono n r x a d)
    show rLA n r x (a + d + 1) ≤ _
    rw [rLA]
    split
    · exact Nat.le_refl _
    · exact Nat.min_le_left _ _
theorem x8_isLeast_18 {n r x a : Nat} {k2 : Int32 → Int32 → Int32 → Int32 → Option Int32} (h1 : 1 ≤ n) (h2 : n ≤ 12) (hr : r < 2 ^ n) (hx : x < 4) (ha : a < 4) (hA : rLA n r x a = r) : ∀ (f i : Nat), i ≤ n → n - i < f → (rSub a x = 1 → ∀ j, j < i → r ≤ rTi n (rL n r a) j) →
    (rLA n r x (a + 1) = r ∧ f_X8_isLeastAlike_18 k2 f (nI r) (nI n) (nI x) (nI a) (nI (rTi n (rL n r a) i)) (nI i) = k2 (nI r) (nI n) (nI x) (nI (a + 1))) ∨
    (rLA n r x 4 ≠ r ∧ f_X8_isLeastAlike_18 k2 f (nI r) (nI n) (nI x) (nI a) (nI (rTi n (rL n r a) i)) (nI i) = some 0)
  | 0, _, _, h, _ => absurd h (Nat.not_lt_zero _)
  | f + 1, i, hi, hf, hj => by
    have lr := r4096 h2 hr
    have lt := r4096 h2 (rTi_lt h1 h2 (rL_lt (a := a) h1 h2 hr) i)
    rw [f_X8_isLeastAlike_18]
    by_cases q : n ≤ i
    · rw [if_pos ((nI_leI (by omega) (by omega)).mpr q), f_X8_isLeastAlike_54, nI_1]
      refine Or.inl ⟨?_, rfl⟩
      rw [rLA]
      rcases rSub_01 a x with e | e
      · rw [if_pos e]; exact hA
      · rw [if_neg (by omega), hA]
        exact Nat.min_eq_left (rMn_ge _ (fun j hj' => hj e j (by omega)))
    · rw [if_neg (fun z => q ((nI_leI (by omega) (by omega)).mp z)), x8_allows hx ha, bd_s]
      rcases rSub_01 a x with e | e
      · rw [e, if_pos nI_0, f_X8_isLeastAlike_54, nI_1]
        refine Or.inl ⟨?_, rfl⟩
        rw [rLA, if_pos e]; exact hA
      · rw [e, if_neg (by decide)]
        by_cases q2 : r ≤ rTi n (rL n r a) i
        · rw [if_pos ((nI_leI (by omega) (by omega)).mpr q2), x8_turned h1 h2 (rTi_lt h1 h2 (rL_lt h1 h2 hr) i), bd_s, nI_1]
          exact x8_isLeast_18 h1 h2 hr hx ha hA f (i + 1) (by omega) (by omega) (fun _ j hj' => by
            by_cases z : j = i
            · rw [z]; exact q2
            · exact hj e j (by omega))
        · rw [if_neg (fun z => q2 ((nI_leI (by omega) (by omega)).mp z))]
          refine Or.inr ⟨fun z => ?_, rfl⟩
          have m1 := rLA_mono n r x (a + 1) (4 - (a + 1))
          rw [show a + 1 + (4 - (a + 1)) = 4 by omega, z] at m1
          have m2 : rLA n r x (a + 1) ≤ rMn n (rL n r a) (n - 1) := by
            rw [rLA, if_neg (by omega)]; exact Nat.min_le_right _ _
          have m3 := rMn_le (n := n) (s := rL n r a) (n - 1) i (by omega)
          omega
theorem x8_isLeast_2 {n r x : Nat} (h1 : 1 ≤ n) (h2 : n ≤ 12) (hr : r < 2 ^ n) (hx : x < 4) : ∀ (f a : Nat), a ≤ 4 → 4 - a < f → rLA n r x a = r →
    f_X8_isLeastAlike_2 f (nI r) (nI n) (nI x) (nI a) = some (if rLA n r x 4 = r then 1 else 0)
  | 0, _, _, h, _ => absurd h (Nat.not_lt_zero _)
  | f + 1, a, ha, hf, hA => by
    rw [f_X8_isLeastAlike_2]
    by_cases q : 3 < a
    · rw [if_pos (show (3 : Int32) < nI a from (nI_ltI (a := 3) (by omega) (by omega)).mpr q), if_pos (by rw [show 4 = a by omega]; exact hA)]
    · have ha4 : a < 4 := by omega
      rw [if_neg (show ¬ (3 : Int32) < nI a from fun z => q ((nI_ltI (a := 3) (by omega) (by omega)).mp z)), x8_inWay h1 h2 hr ha4, bd_s]
      rcases x8_isLeast_18 (k2 := fun x0 x1 x2 x3 => f_X8_isLeastAlike_2 f x0 x1 x2 x3) h1 h2 hr hx ha4 hA kFU 0 (Nat.zero_le _) (by unfold kFU; omega) (fun _ j hj => absurd hj (Nat.not_lt_zero _)) with ⟨z1, z2⟩ | ⟨z1, z2⟩
      · refine Eq.trans z2 ?_
        exact x8_isLeast_2 h1 h2 hr hx f (a + 1) (by omega) (by omega) z1
      · rw [if_neg z1]
        exact z2
theorem x8_isLeast {n r x : Nat} (h1 : 1 ≤ n) (h2 : n ≤ 12) (hr : r < 2 ^ n) (hx : x < 4) : f_X8_isLeastAlike (nI r) (nI n) (nI x) = some (if rLA n r x 4 = r then 1 else 0) :=
  x8_isLeast_2 h1 h2 hr hx kFU 0 (Nat.zero_le _) (by unfold kFU; omega) rfl
theorem x8_closes {n r : Nat} (h1 : 1 ≤ n) (h2 : n ≤ 12) (hr : r < 2 ^ n) : f_X8_closes (nI r) (nI n) = some (if rRep n r = n then 1 else 0) := by
  rw [f_X8_closes, x8_total h2 hr, bd_s]
  unfold rRep
  by_cases q : (rP r + n) % 3 = 0
  · rw [if_pos ((rp_tot (rPc_le 12 r) h1 h2).mpr q), if_pos q, if_pos rfl]
  · rw [if_neg (fun z => q ((rp_tot (rPc_le 12 r) h1 h2).mp z)), if_neg q, if_neg (by omega)]
/-! THE FEWEST SLIPS -/
def rDi (n r s z : Nat) : Nat → Nat
  | 0 => z
  | i + 1 => Nat.min (rDi n r s z i) (rP (Nat.xor r (rTi n s i)))
def rDa (n r t x z : Nat) : Nat → Nat
  | 0 => z
  | a + 1 => if rSub a x = 0 then rDa n r t x z a else rDi n r (rL n t a) (rDa n r t x z a) n
theorem rDi_min (n r s c z : Nat) : ∀ i, rDi n r s (Nat.min c z) i = Nat.min c (rDi n r s z i)
  | 0 => rfl
  | i + 1 => by
    show Nat.min (rDi n r s (Nat.min c z) i) (rP (Nat.xor r (rTi n s i))) = Nat.min c (Nat.min (rDi n r s z i) (rP (Nat.xor r (rTi n s i))))
    rw [rDi_min n r s c z i]
    exact Nat.min_assoc _ _ _
theorem rDa_min (n r t x c z : Nat) : ∀ a, rDa n r t x (Nat.min c z) a = Nat.min c (rDa n r t x z a)
  | 0 => rfl
  | a + 1 => by
    rw [rDa, rDa]
    split
    · exact rDa_min n r t x c z a
    · rw [rDa_min n r t x c z a, rDi_min]
theorem rDi_le (n r s z : Nat) : ∀ i, rDi n r s z i ≤ z
  | 0 => Nat.le_refl _
  | i + 1 => Nat.le_trans (Nat.min_le_left _ _) (rDi_le n r s z i)
theorem rDi_at (n r s z : Nat) : ∀ i, rDi n r s z (i + 1) ≤ rP (Nat.xor r s)
  | 0 => Nat.min_le_right _ _
  | i + 1 => Nat.le_trans (Nat.min_le_left _ _) (rDi_at n r s z i)
theorem rDa_mono (n r t x z : Nat) : ∀ a d, rDa n r t x z (a + d) ≤ rDa n r t x z a
  | _, 0 => Nat.le_refl _
  | a, d + 1 => by
    refine Nat.le_trans ?_ (rDa_mono n r t x z a d)
    show rDa n r t x z (a + d + 1) ≤ _
    rw [rDa]
    split
    · exact Nat.le_refl _
    · exact rDi_le _ _ _ _ _
theorem rP_n {n r : Nat} (h1 : 1 ≤ n) (h2 : n ≤ 12) (hr : r < 2 ^ n) : rP r ≤ n := of_decide_eq_true (allR_at (p := fun n r => decide (rP r ≤ n)) (by decide +kernel) h1 h2 hr)
theorem rDa_n {n r t x : Nat} (h1 : 1 ≤ n) (h2 : n ≤ 12) (hr : r < 2 ^ n) (ht : t < 2 ^ n) (hx : x < 4) : rDa n r t x n 4 = rDa n r t x 99999 4 := by
  have e : rDa n r t x n 4 = Nat.min n (rDa n r t x 99999 4) := by rw [← rDa_min, show Nat.min n 99999 = n from Nat.min_eq_left (by omega)]
  have m := rDa_mono n r t x 99999 1 3
  have o : rDa n r t x 99999 1 ≤ rP (Nat.xor r t) := by
    rw [rDa, if_neg (by rw [show rSub 0 x = 1 by unfold rSub; rw [if_pos (show Nat.land 0 x = 0 from Nat.zero_and x)]]; decide), show n = n - 1 + 1 by omega]
    exact rDi_at _ _ _ _ _
  have k := rP_n h1 h2 (rx_lt hr ht)
  rw [e]
  exact Nat.min_eq_right (Nat.le_trans m (Nat.le_trans o k))
theorem x8_fewest_24 {n r t x a z : Nat} {k6 : Int32 → Int32 → Int32 → Int32 → Int32 → Int32 → Option Int32} {T : Int32} (h1 : 1 ≤ n) (h2 : n ≤ 12) (hr : r < 2 ^ n) (ht : t < 2 ^ n) (hx : x < 4) (ha : a < 4) (hs : rSub a x = 1) (hz : z ≤ 99999) : ∀ (f i : Nat), i ≤ n → n - i < f →
    f_X8_fewestSlips_24 k6 f (nI r) T (nI n) (nI x) (nI (rDi n r (rL n t a) z i)) (nI a) (nI (rTi n (rL n t a) i)) (nI i) = k6 (nI r) T (nI n) (nI x) (nI (rDi n r (rL n t a) z n)) (nI (a + 1))
  | 0, _, _, h => absurd h (Nat.not_lt_zero _)
  | f + 1, i, hi, hf => by
    have lt := rTi_lt h1 h2 (rL_lt (a := a) h1 h2 ht) i
    have lz := rDi_le n r (rL n t a) z i
    have lp : rP (Nat.xor r (rTi n (rL n t a) i)) ≤ 12 := rPc_le 12 _
    rw [f_X8_fewestSlips_24]
    by_cases q : n ≤ i
    · rw [if_pos ((nI_leI (by omega) (by omega)).mpr q), f_X8_fewestSlips_67, nI_1, show i = n by omega]
    · rw [if_neg (fun z => q ((nI_leI (by omega) (by omega)).mp z)), x8_allows hx ha, bd_s, hs, if_neg (by decide), nI_xor, j6_bitCount (r4096 h2 (rx_lt hr lt)), bd_s, lt_q, i32_min (by omega) (by omega), x8_turned h1 h2 lt, bd_s, nI_1]
      exact x8_fewest_24 h1 h2 hr ht hx ha hs hz f (i + 1) (by omega) (by omega)
theorem rDa_le {n r t x z : Nat} : ∀ a, rDa n r t x z a ≤ z := fun a => by
  have := rDa_mono n r t x z 0 a
  rw [Nat.zero_add] at this
  exact this
theorem x8_fewest_6 {n r t x : Nat} (h1 : 1 ≤ n) (h2 : n ≤ 12) (hr : r < 2 ^ n) (ht : t < 2 ^ n) (hx : x < 4) : ∀ (f a : Nat), a ≤ 4 → 4 - a < f →
    f_X8_fewestSlips_6 f (nI r) (nI t) (nI n) (nI x) (nI (rDa n r t x n a)) (nI a) = some (nI (rDa n r t x n 4))
  | 0, _, _, h => absurd h (Nat.not_lt_zero _)
  | f + 1, a, ha, hf => by
    have lz := rDa_le (n := n) (r := r) (t := t) (x := x) (z := n) a
    rw [f_X8_fewestSlips_6]
    by_cases q : 3 < a
    · rw [if_pos (show (3 : Int32) < nI a from (nI_ltI (a := 3) (by omega) (by omega)).mpr q), show a = 4 by omega]
    · have ha4 : a < 4 := by omega
      have IH := x8_fewest_6 h1 h2 hr ht hx f (a + 1) (by omega) (by omega)
      rw [if_neg (show ¬ (3 : Int32) < nI a from fun z => q ((nI_ltI (a := 3) (by omega) (by omega)).mp z)), x8_inWay h1 h2 ht ha4, bd_s]
      rcases rSub_01 a x with e | e
      · rw [rDa, if_pos e] at IH
        rw [show kFU = 99999 + 1 from rfl, f_X8_fewestSlips_24, if_neg (show ¬ nI n ≤ 0 from nI_nle h1 (by omega)), x8_allows hx ha4, bd_s, e, if_pos nI_0, f_X8_fewestSlips_67, nI_1]
        exact IH
      · rw [rDa, if_neg (by omega)] at IH
        refine Eq.trans (x8_fewest_24 (T := nI t) h1 h2 hr ht hx ha4 e (show rDa n r t x n a ≤ 99999 by omega) kFU 0 (Nat.zero_le _) (by unfold kFU; omega)) ?_
        exact IH
theorem x8_fewest {n r t x : Nat} (h1 : 1 ≤ n) (h2 : n ≤ 12) (hr : r < 2 ^ n) (ht : t < 2 ^ n) (hx : x < 4) : f_X8_fewestSlips (nI r) (nI t) (nI n) (nI x) = some (nI (rDa n r t x n 4)) :=
  x8_fewest_6 h1 h2 hr ht hx kFU 0 (Nat.zero_le _) (by unfold kFU; omega)
