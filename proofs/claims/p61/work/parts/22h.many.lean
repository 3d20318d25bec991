/-! HOW MANY ROWS ARE ALIKE A ROW -/
def sm (f : Nat → Nat) : Nat → Nat
  | 0 => 0
  | k + 1 => sm f k + f k
theorem sm_congr {f g : Nat → Nat} : ∀ K, (∀ k, k < K → f k = g k) → sm f K = sm g K
  | 0, _ => rfl
  | K + 1, h => by
    show sm f K + f K = sm g K + g K
    rw [sm_congr K (fun k hk => h k (by omega)), h K (by omega)]
theorem sm_add (f g : Nat → Nat) : ∀ K, sm (fun k => f k + g k) K = sm f K + sm g K
  | 0 => rfl
  | K + 1 => by
    show sm (fun k => f k + g k) K + (f K + g K) = (sm f K + f K) + (sm g K + g K)
    rw [sm_add f g K]; omega
theorem sm_mul (c : Nat) (f : Nat → Nat) : ∀ K, sm (fun k => c * f k) K = c * sm f K
  | 0 => rfl
  | K + 1 => by
    show sm (fun k => c * f k) K + c * f K = c * (sm f K + f K)
    rw [sm_mul c f K, Nat.mul_add]
theorem sm_one (c : Nat) : ∀ K, sm (fun k => if c = k then 1 else 0) K = if c < K then 1 else 0
  | 0 => rfl
  | K + 1 => by
    show sm (fun k => if c = k then 1 else 0) K + (if c = K then 1 else 0) = _
    rw [sm_one c K]
    by_cases a : c < K
    · rw [if_pos a, if_neg (by omega), if_pos (by omega)]
    · rw [if_neg a]
      by_cases b : c = K
      · rw [if_pos b, if_pos (by omega)]
      · rw [if_neg b, if_neg (by omega)]
theorem sm_0 : ∀ K, sm (fun _ => 0) K = 0
  | 0 => rfl
  | K + 1 => sm_0 K
theorem sm_le {f : Nat → Nat} (h : ∀ k, f k ≤ 1) : ∀ K, sm f K ≤ K
  | 0 => Nat.le_refl _
  | K + 1 => by
    have a := sm_le h K
    have b := h K
    show sm f K + f K ≤ K + 1
    omega
abbrev rM0 (n s : Nat) : Nat := rMn n s (n - 1)
theorem rTi_T (n s : Nat) : ∀ j, rTi n (rT n s) j = rTi n s (j + 1)
  | 0 => rfl
  | j + 1 => by
    show rT n (rTi n (rT n s) j) = rT n (rTi n s (j + 1))
    rw [rTi_T n s j]
theorem rTi_Ti (n s i : Nat) : ∀ j, rTi n (rTi n s i) j = rTi n s (i + j)
  | 0 => rfl
  | j + 1 => by
    show rT n (rTi n (rTi n s i) j) = rT n (rTi n s (i + j))
    rw [rTi_Ti n s i j]
theorem rM0_T {n s : Nat} (h1 : 1 ≤ n) (h2 : n ≤ 12) (hs : s < 2 ^ n) : rM0 n (rT n s) = rM0 n s := by
  have e := rTi_n h1 h2 hs
  apply Nat.le_antisymm
  · refine rMn_ge _ (fun j hj => ?_)
    rcases Nat.eq_zero_or_pos j with z | z
    · have := rMn_le (n := n) (s := rT n s) (n - 1) (n - 1) (Nat.le_refl _)
      rw [rTi_T, show n - 1 + 1 = n by omega, e] at this
      rw [z]; exact this
    · have := rMn_le (n := n) (s := rT n s) (n - 1) (j - 1) (by omega)
      rw [rTi_T, show j - 1 + 1 = j by omega] at this
      exact this
  · refine rMn_ge _ (fun j hj => ?_)
    rw [rTi_T]
    by_cases q : j + 1 = n
    · rw [q, e]
      exact rMn_le (n := n) (s := s) (n - 1) 0 (Nat.zero_le _)
    · exact rMn_le (n := n) (s := s) (n - 1) (j + 1) (by omega)
theorem rMn_at (n s : Nat) : ∀ i, ∃ j, j ≤ i ∧ rMn n s i = rTi n s j
  | 0 => ⟨0, Nat.le_refl _, rfl⟩
  | i + 1 => by
    obtain ⟨j, h1, h2⟩ := rMn_at n s i
    show ∃ j, j ≤ i + 1 ∧ Nat.min (rMn n s i) (rTi n s (i + 1)) = rTi n s j
    rcases Nat.le_total (rMn n s i) (rTi n s (i + 1)) with q | q
    · exact ⟨j, by omega, by rw [show Nat.min (rMn n s i) (rTi n s (i + 1)) = rMn n s i from Nat.min_eq_left q, h2]⟩
    · exact ⟨i + 1, Nat.le_refl _, Nat.min_eq_right q⟩
theorem rW_T {n r : Nat} (h1 : 1 ≤ n) (h2 : n ≤ 12) (hr : r < 2 ^ n) : rW n (rT n r) = rT n (rW n r) := of_decide_eq_true (allR_at (p := fun n r => decide (rW n (rT n r) = rT n (rW n r))) (by decide +kernel) h1 h2 hr)
theorem rV_T {n r : Nat} (h1 : 1 ≤ n) (h2 : n ≤ 12) (hr : r < 2 ^ n) : rT n (rV n (rT n r)) = rV n r := of_decide_eq_true (allR_at (p := fun n r => decide (rT n (rV n (rT n r)) = rV n r)) (by decide +kernel) h1 h2 hr)
theorem rV_V {n r : Nat} (h1 : 1 ≤ n) (h2 : n ≤ 12) (hr : r < 2 ^ n) : rV n (rV n r) = r := of_decide_eq_true (allR_at (p := fun n r => decide (rV n (rV n r) = r)) (by decide +kernel) h1 h2 hr)
theorem rM0_LT {n r b : Nat} (h1 : 1 ≤ n) (h2 : n ≤ 12) (hr : r < 2 ^ n) (hb : b < 4) : rM0 n (rL n (rT n r) b) = rM0 n (rL n r b) := by
  have hT := rT_lt h1 h2 hr
  have hVT := rV_lt h1 h2 hT
  match b, hb with
  | 0, _ => exact rM0_T h1 h2 hr
  | 1, _ =>
    show rM0 n (rW n (rT n r)) = rM0 n (rW n r)
    rw [rW_T h1 h2 hr, rM0_T h1 h2 (rW_lt hr)]
  | 2, _ =>
    show rM0 n (rW n (rV n (rT n r))) = rM0 n (rW n (rV n r))
    rw [← rM0_T h1 h2 (rW_lt hVT), ← rW_T h1 h2 hVT, rV_T h1 h2 hr]
  | 3, _ =>
    show rM0 n (rV n (rT n r)) = rM0 n (rV n r)
    rw [← rM0_T h1 h2 hVT, rV_T h1 h2 hr]
theorem rM0_LTi {n r b : Nat} (h1 : 1 ≤ n) (h2 : n ≤ 12) (hr : r < 2 ^ n) (hb : b < 4) : ∀ i, rM0 n (rL n (rTi n r i) b) = rM0 n (rL n r b)
  | 0 => rfl
  | i + 1 => by
    show rM0 n (rL n (rT n (rTi n r i)) b) = _
    rw [rM0_LT h1 h2 (rTi_lt h1 h2 hr i) hb, rM0_LTi h1 h2 hr hb i]
theorem rM0_L {n s t b : Nat} (h1 : 1 ≤ n) (h2 : n ≤ 12) (hs : s < 2 ^ n) (ht : t < 2 ^ n) (hb : b < 4) (h : rM0 n s = rM0 n t) : rM0 n (rL n s b) = rM0 n (rL n t b) := by
  obtain ⟨i, -, ei⟩ := rMn_at n s (n - 1)
  obtain ⟨j, -, ej⟩ := rMn_at n t (n - 1)
  have e : rTi n s i = rTi n t j := by rw [← ei, ← ej]; exact h
  rw [← rM0_LTi h1 h2 hs hb i, e, rM0_LTi h1 h2 ht hb j]
theorem rL_L {n r a b : Nat} (h1 : 1 ≤ n) (h2 : n ≤ 12) (hr : r < 2 ^ n) (ha : a < 4) (hb : b < 4) : rL n (rL n r a) b = rL n r (Nat.xor a b) := by
  have hV := rV_lt h1 h2 hr
  have hW := rW_lt hr
  have wv := rV_W h1 h2 hr
  have wvv := rV_W h1 h2 hV
  have vv := rV_V h1 h2 hr
  have ww := rW_W hr
  have wwv := rW_W hV
  match a, ha, b, hb with
  | 0, _, 0, _ => rfl
  | 0, _, 1, _ => rfl
  | 0, _, 2, _ => rfl
  | 0, _, 3, _ => rfl
  | 1, _, 0, _ => rfl
  | 1, _, 1, _ => exact ww
  | 1, _, 2, _ => show rW n (rV n (rW n r)) = rV n r; rw [wv, wwv]
  | 1, _, 3, _ => exact wv
  | 2, _, 0, _ => rfl
  | 2, _, 1, _ => exact wwv
  | 2, _, 2, _ => show rW n (rV n (rW n (rV n r))) = r; rw [wvv, rW_W (rV_lt h1 h2 hV), vv]
  | 2, _, 3, _ => show rV n (rW n (rV n r)) = rW n r; rw [wvv, vv]
  | 3, _, 0, _ => rfl
  | 3, _, 1, _ => rfl
  | 3, _, 2, _ => show rW n (rV n (rV n r)) = rW n r; rw [vv]
  | 3, _, 3, _ => exact vv
theorem rSub_x {a b x : Nat} (ha : a < 4) (hb : b < 4) (hx : x < 4) (h : rSub a x = 1) (g : rSub b x = 1) : Nat.xor a b < 4 ∧ rSub (Nat.xor a b) x = 1 := by
  have k := of_decide_eq_true (allB_at (allB_at (allB_at (N := 4) (p := fun a => allB 4 (fun b => allB 4 (fun x => decide (rSub a x = 1 → rSub b x = 1 → Nat.xor a b < 4 ∧ rSub (Nat.xor a b) x = 1)))) (by decide +kernel) a ha) b hb) x hx)
  exact k h g
theorem rSub_0 (x : Nat) : rSub 0 x = 1 := by unfold rSub; rw [if_pos (show Nat.land 0 x = 0 from Nat.zero_and x)]
theorem rLA_le {n r x a : Nat} (hs : rSub a x = 1) : ∀ k, a < k → rLA n r x k ≤ rM0 n (rL n r a)
  | 0, h => absurd h (Nat.not_lt_zero _)
  | k + 1, h => by
    by_cases e : a = k
    · subst e
      rw [rLA, if_neg (by omega)]
      exact Nat.min_le_right _ _
    · exact Nat.le_trans (rLA_mono n r x k 1) (rLA_le hs k (by omega))
theorem rLA_at (n r x : Nat) : ∀ k, ∃ a, a < k + 1 ∧ rSub a x = 1 ∧ rLA n r x (k + 1) = rM0 n (rL n r a)
  | 0 => ⟨0, by omega, rSub_0 x, by
    rw [rLA, if_neg (by rw [rSub_0]; decide)]
    exact Nat.min_eq_right (rMn_le (n := n) (s := r) (n - 1) 0 (Nat.zero_le _))⟩
  | k + 1 => by
    obtain ⟨a, h1, h2, h3⟩ := rLA_at n r x k
    rw [rLA]
    rcases rSub_01 (k + 1) x with e | e
    · rw [if_pos e]
      exact ⟨a, by omega, h2, h3⟩
    · rw [if_neg (by omega)]
      rcases Nat.le_total (rLA n r x (k + 1)) (rMn n (rL n r (k + 1)) (n - 1)) with q | q
      · exact ⟨a, by omega, h2, by rw [show Nat.min (rLA n r x (k + 1)) (rMn n (rL n r (k + 1)) (n - 1)) = rLA n r x (k + 1) from Nat.min_eq_left q, h3]⟩
      · exact ⟨k + 1, by omega, e, Nat.min_eq_right q⟩
theorem rLA_iff {n r r' x : Nat} (h1 : 1 ≤ n) (h2 : n ≤ 12) (hr : r < 2 ^ n) (hr' : r' < 2 ^ n) (hx : x < 4) : rLA n r' x 4 = rLA n r x 4 ↔ ∃ a, a < 4 ∧ rSub a x = 1 ∧ rM0 n r' = rM0 n (rL n r a) := by
  constructor
  · intro h
    obtain ⟨b, b1, b2, b3⟩ := rLA_at n r' x 3
    obtain ⟨a, a1, a2, a3⟩ := rLA_at n r x 3
    obtain ⟨c1, c2⟩ := rSub_x a1 b1 hx a2 b2
    refine ⟨Nat.xor a b, c1, c2, ?_⟩
    have e : rM0 n (rL n r' b) = rM0 n (rL n r a) := by rw [← b3, ← a3]; exact h
    have f := rM0_L (b := b) h1 h2 (rL_lt h1 h2 hr') (rL_lt h1 h2 hr) b1 e
    rw [rL_L h1 h2 hr' b1 b1, rL_L h1 h2 hr a1 b1, show Nat.xor b b = 0 from Nat.xor_self b] at f
    exact f
  · intro ⟨a, a1, a2, a3⟩
    apply Nat.le_antisymm
    · obtain ⟨c, c1, c2, c3⟩ := rLA_at n r x 3
      obtain ⟨d1, d2⟩ := rSub_x a1 c1 hx a2 c2
      have f := rM0_L (b := Nat.xor a c) h1 h2 hr' (rL_lt h1 h2 hr) d1 a3
      rw [rL_L h1 h2 hr a1 d1, show Nat.xor a (Nat.xor a c) = c from (Nat.xor_assoc a a c).symm.trans (by rw [Nat.xor_self, Nat.zero_xor])] at f
      rw [c3, ← f]
      exact rLA_le d2 4 d1
    · obtain ⟨c, c1, c2, c3⟩ := rLA_at n r' x 3
      obtain ⟨d1, d2⟩ := rSub_x a1 c1 hx a2 c2
      have f := rM0_L (b := c) h1 h2 hr' (rL_lt h1 h2 hr) c1 a3
      rw [rL_L h1 h2 hr a1 c1] at f
      rw [c3, f]
      exact rLA_le d2 4 d1
/-! the turns of a row, each once -/
theorem rPf_spec {n r : Nat} (hn : rTi n r n = r) : ∀ f k, k + f = n → rTi n r (rPf n r f k) = r ∧ k ≤ rPf n r f k ∧ ∀ j, k ≤ j → j < rPf n r f k → rTi n r j ≠ r
  | 0, k, h => by
    have e : k = n := by omega
    subst e
    exact ⟨hn, Nat.le_refl _, fun j a b => by rw [rPf] at b; omega⟩
  | f + 1, k, h => by
    rw [rPf]
    by_cases q : rTi n r k = r
    · rw [if_pos q]
      exact ⟨q, Nat.le_refl _, fun j a b => by omega⟩
    · rw [if_neg q]
      obtain ⟨a1, a2, a3⟩ := rPf_spec hn f (k + 1) (by omega)
      refine ⟨a1, by omega, fun j hj hj2 => ?_⟩
      by_cases e : j = k
      · rw [e]; exact q
      · exact a3 j (by omega) hj2
theorem rPd_spec {n r : Nat} (h1 : 1 ≤ n) (h2 : n ≤ 12) (hr : r < 2 ^ n) : rTi n r (rPd n r) = r ∧ 1 ≤ rPd n r ∧ rPd n r ≤ n ∧ ∀ j, 1 ≤ j → j < rPd n r → rTi n r j ≠ r := by
  obtain ⟨a1, a2, a3⟩ := rPf_spec (rTi_n h1 h2 hr) (n - 1) 1 (by omega)
  exact ⟨a1, a2, (rPf_le (n - 1) 1 (by omega) (by omega) h1).2, a3⟩
theorem rTi_mul {n r P : Nat} (h : rTi n r P = r) (i : Nat) : ∀ q, rTi n r (i + P * q) = rTi n r i
  | 0 => rfl
  | q + 1 => by
    rw [Nat.mul_succ, show i + (P * q + P) = P + (i + P * q) by omega, ← rTi_Ti, h, rTi_mul h i q]
theorem rTi_inj {n r : Nat} (h1 : 1 ≤ n) (h2 : n ≤ 12) (hr : r < 2 ^ n) {i j : Nat} (hi : i < rPd n r) (hj : j < rPd n r) (h : rTi n r i = rTi n r j) : i = j := by
  obtain ⟨-, -, a3, a4⟩ := rPd_spec h1 h2 hr
  have en := rTi_n h1 h2 hr
  have key : ∀ a b, a < b → b < rPd n r → rTi n r a = rTi n r b → False := fun a b hab hb e => by
    have e2 : rTi n (rTi n r a) (n - a) = rTi n (rTi n r b) (n - a) := by rw [e]
    rw [rTi_Ti, rTi_Ti, show a + (n - a) = n by omega, en, show b + (n - a) = n + (b - a) by omega, ← rTi_Ti, en] at e2
    exact a4 (b - a) (by omega) (by omega) e2.symm
  rcases Nat.lt_trichotomy i j with q | q | q
  · exact absurd h (fun e => key i j q hj e)
  · exact q
  · exact absurd h (fun e => key j i q hi e.symm)
theorem rM0_Ti {n r : Nat} (h1 : 1 ≤ n) (h2 : n ≤ 12) (hr : r < 2 ^ n) : ∀ i, rM0 n (rTi n r i) = rM0 n r
  | 0 => rfl
  | i + 1 => by
    show rM0 n (rT n (rTi n r i)) = _
    rw [rM0_T h1 h2 (rTi_lt h1 h2 hr i), rM0_Ti h1 h2 hr i]
theorem rM0_iff {n r r' : Nat} (h1 : 1 ≤ n) (h2 : n ≤ 12) (hr : r < 2 ^ n) (hr' : r' < 2 ^ n) : rM0 n r' = rM0 n r ↔ ∃ i, i < rPd n r ∧ rTi n r i = r' := by
  obtain ⟨b1, b2, -, -⟩ := rPd_spec h1 h2 hr
  constructor
  · intro h
    obtain ⟨i, i1, ei⟩ := rMn_at n r' (n - 1)
    obtain ⟨j, -, ej⟩ := rMn_at n r (n - 1)
    have e : rTi n r' i = rTi n r j := by rw [← ei, ← ej]; exact h
    have e2 : rTi n (rTi n r' i) (n - i) = rTi n (rTi n r j) (n - i) := by rw [e]
    rw [rTi_Ti, rTi_Ti, show i + (n - i) = n by omega, rTi_n h1 h2 hr'] at e2
    refine ⟨(j + (n - i)) % rPd n r, Nat.mod_lt _ b2, ?_⟩
    have m := rTi_mul b1 ((j + (n - i)) % rPd n r) ((j + (n - i)) / rPd n r)
    rw [Nat.mod_add_div] at m
    rw [← m, e2]
  · intro ⟨i, _, e⟩
    rw [← e, rM0_Ti h1 h2 hr]
def inP (n s : Nat) : Nat → Nat → Nat
  | 0, _ => 0
  | P + 1, k => inP n s P k + (if rTi n s P = k then 1 else 0)
theorem sm_inP {n s : Nat} (h1 : 1 ≤ n) (h2 : n ≤ 12) (hs : s < 2 ^ n) : ∀ P, sm (inP n s P) (2 ^ n) = P
  | 0 => sm_0 _
  | P + 1 => by
    show sm (fun k => inP n s P k + (if rTi n s P = k then 1 else 0)) (2 ^ n) = P + 1
    rw [sm_add, sm_one, if_pos (rTi_lt h1 h2 hs P)]
    show sm (inP n s P) (2 ^ n) + 1 = P + 1
    rw [sm_inP h1 h2 hs P]
theorem inP_spec {n s k : Nat} (h1 : 1 ≤ n) (h2 : n ≤ 12) (hs : s < 2 ^ n) : ∀ P, P ≤ rPd n s → (inP n s P k = 1 ∧ ∃ i, i < P ∧ rTi n s i = k) ∨ (inP n s P k = 0 ∧ ¬ ∃ i, i < P ∧ rTi n s i = k)
  | 0, _ => Or.inr ⟨rfl, fun ⟨i, h, _⟩ => absurd h (Nat.not_lt_zero _)⟩
  | P + 1, hP => by
    show (inP n s P k + (if rTi n s P = k then 1 else 0) = 1 ∧ _) ∨ (inP n s P k + (if rTi n s P = k then 1 else 0) = 0 ∧ _)
    rcases inP_spec (k := k) h1 h2 hs P (by omega) with ⟨a, i, b, c⟩ | ⟨a, b⟩
    · have ne : ¬ rTi n s P = k := fun e => by
        have := rTi_inj h1 h2 hs (show i < rPd n s by omega) (show P < rPd n s by omega) (c.trans e.symm)
        omega
      rw [if_neg ne, a]
      exact Or.inl ⟨rfl, i, by omega, c⟩
    · by_cases e : rTi n s P = k
      · rw [if_pos e, a]
        exact Or.inl ⟨rfl, P, by omega, e⟩
      · rw [if_neg e, a]
        refine Or.inr ⟨rfl, fun ⟨i, c, d⟩ => ?_⟩
        by_cases z : i = P
        · rw [z] at d; exact e d
        · exact b ⟨i, by omega, d⟩
theorem cnt_M0 {n s : Nat} (h1 : 1 ≤ n) (h2 : n ≤ 12) (hs : s < 2 ^ n) : sm (fun k => if rM0 n k = rM0 n s then 1 else 0) (2 ^ n) = rPd n s := by
  rw [← sm_inP h1 h2 hs (rPd n s)]
  refine (sm_congr _ (fun k hk => ?_)).trans (by rw [sm_inP h1 h2 hs])
  show (if rM0 n k = rM0 n s then 1 else 0) = inP n s (rPd n s) k
  rcases inP_spec (k := k) h1 h2 hs (rPd n s) (Nat.le_refl _) with ⟨a, b⟩ | ⟨a, b⟩
  · rw [a, if_pos ((rM0_iff h1 h2 hs hk).mpr b)]
  · rw [a, if_neg (fun z => b ((rM0_iff h1 h2 hs hk).mp z))]
theorem rPd_W {n r : Nat} (h1 : 1 ≤ n) (h2 : n ≤ 12) (hr : r < 2 ^ n) : rPd n (rW n r) = rPd n r := of_decide_eq_true (allR_at (p := fun n r => decide (rPd n (rW n r) = rPd n r)) (by decide +kernel) h1 h2 hr)
theorem rPd_V {n r : Nat} (h1 : 1 ≤ n) (h2 : n ≤ 12) (hr : r < 2 ^ n) : rPd n (rV n r) = rPd n r := of_decide_eq_true (allR_at (p := fun n r => decide (rPd n (rV n r) = rPd n r)) (by decide +kernel) h1 h2 hr)
theorem rPd_L {n r a : Nat} (h1 : 1 ≤ n) (h2 : n ≤ 12) (hr : r < 2 ^ n) (ha : a < 4) : rPd n (rL n r a) = rPd n r := by
  match a, ha with
  | 0, _ => rfl
  | 1, _ => exact rPd_W h1 h2 hr
  | 2, _ =>
    show rPd n (rW n (rV n r)) = _
    rw [rPd_W h1 h2 (rV_lt h1 h2 hr), rPd_V h1 h2 hr]
  | 3, _ => exact rPd_V h1 h2 hr
/-! the ways that bring new rows -/
def nwk (u : Nat → Nat) (x a : Nat) : Nat → Nat
  | 0 => rSub a x
  | b + 1 => if nwk u x a b = 0 then 0 else if rSub b x = 0 then 1 else if u b = u a then 0 else 1
theorem nwk_spec (u : Nat → Nat) (x a : Nat) : ∀ b, (nwk u x a b = 1 ∧ rSub a x = 1 ∧ ∀ b', b' < b → rSub b' x = 1 → u b' ≠ u a) ∨ (nwk u x a b = 0 ∧ ¬ (rSub a x = 1 ∧ ∀ b', b' < b → rSub b' x = 1 → u b' ≠ u a))
  | 0 => by
    rcases rSub_01 a x with e | e
    · exact Or.inr ⟨e, fun z => by omega⟩
    · exact Or.inl ⟨e, e, fun b' h => absurd h (Nat.not_lt_zero _)⟩
  | b + 1 => by
    rw [nwk]
    rcases nwk_spec u x a b with ⟨h1, h2, h3⟩ | ⟨h1, h2⟩
    · rw [if_neg (by omega)]
      rcases rSub_01 b x with e | e
      · rw [if_pos e]
        refine Or.inl ⟨rfl, h2, fun b' hb' hs => ?_⟩
        by_cases z : b' = b
        · rw [z] at hs; omega
        · exact h3 b' (by omega) hs
      · rw [if_neg (by omega)]
        by_cases y : u b = u a
        · rw [if_pos y]
          exact Or.inr ⟨rfl, fun z => z.2 b (by omega) e y⟩
        · rw [if_neg y]
          refine Or.inl ⟨rfl, h2, fun b' hb' hs => ?_⟩
          by_cases z : b' = b
          · rw [z]; exact y
          · exact h3 b' (by omega) hs
    · rw [if_pos h1]
      exact Or.inr ⟨rfl, fun z => h2 ⟨z.1, fun b' hb' => z.2 b' (by omega)⟩⟩
def nwS (u : Nat → Nat) (x v : Nat) : Nat → Nat
  | 0 => 0
  | k + 1 => nwS u x v k + nwk u x k k * (if v = u k then 1 else 0)
theorem nwS_spec (u : Nat → Nat) (x v : Nat) : ∀ k, (nwS u x v k = 1 ∧ ∃ a, a < k ∧ rSub a x = 1 ∧ v = u a) ∨ (nwS u x v k = 0 ∧ ¬ ∃ a, a < k ∧ rSub a x = 1 ∧ v = u a)
  | 0 => Or.inr ⟨rfl, fun ⟨a, h, _⟩ => absurd h (Nat.not_lt_zero _)⟩
  | k + 1 => by
    rw [nwS]
    have more : (∃ a, a < k ∧ rSub a x = 1 ∧ v = u a) → ∃ a, a < k + 1 ∧ rSub a x = 1 ∧ v = u a := fun ⟨a, h, g⟩ => ⟨a, by omega, g⟩
    by_cases e : v = u k
    · rw [if_pos e, Nat.mul_one]
      rcases nwS_spec u x v k with ⟨h1, h2⟩ | ⟨h1, h2⟩ <;> rcases nwk_spec u x k k with ⟨g1, g2, g3⟩ | ⟨g1, g2⟩
      · obtain ⟨a, a1, a2, a3⟩ := h2
        exact absurd (a3.symm.trans e) (g3 a a1 a2)
      · rw [h1, g1]; exact Or.inl ⟨rfl, more h2⟩
      · rw [h1, g1]; exact Or.inl ⟨rfl, k, by omega, g2, e⟩
      · rw [h1, g1]
        refine Or.inr ⟨rfl, fun ⟨a, a1, a2, a3⟩ => ?_⟩
        by_cases z : a = k
        · rw [z] at a2
          exact g2 ⟨a2, fun b' hb' hs y => h2 ⟨b', hb', hs, e.trans y.symm⟩⟩
        · exact h2 ⟨a, by omega, a2, a3⟩
    · rw [if_neg e, Nat.mul_zero, Nat.add_zero]
      rcases nwS_spec u x v k with ⟨h1, h2⟩ | ⟨h1, h2⟩
      · exact Or.inl ⟨h1, more h2⟩
      · refine Or.inr ⟨h1, fun ⟨a, a1, a2, a3⟩ => ?_⟩
        by_cases z : a = k
        · rw [z] at a3; exact e a3
        · exact h2 ⟨a, by omega, a2, a3⟩
def nwC (u : Nat → Nat) (x : Nat) : Nat → Nat
  | 0 => 0
  | k + 1 => nwC u x k + nwk u x k k
theorem nwk_le (u : Nat → Nat) (x a b : Nat) : nwk u x a b ≤ 1 := by
  rcases nwk_spec u x a b with ⟨h, _⟩ | ⟨h, _⟩ <;> omega
theorem nwC_le (u : Nat → Nat) (x : Nat) : ∀ k, nwC u x k ≤ k
  | 0 => Nat.le_refl _
  | k + 1 => by
    have h := nwC_le u x k
    have g := nwk_le u x k k
    show nwC u x k + nwk u x k k ≤ k + 1
    omega
abbrev rU (n r : Nat) : Nat → Nat := fun a => rM0 n (rL n r a)
theorem sm_nwS {n r x : Nat} (h1 : 1 ≤ n) (h2 : n ≤ 12) (hr : r < 2 ^ n) : ∀ k, k ≤ 4 → sm (fun r' => nwS (rU n r) x (rM0 n r') k) (2 ^ n) = nwC (rU n r) x k * rPd n r
  | 0, _ => by rw [show nwC (rU n r) x 0 = 0 from rfl, Nat.zero_mul]; exact sm_0 _
  | k + 1, hk => by
    show sm (fun r' => nwS (rU n r) x (rM0 n r') k + nwk (rU n r) x k k * (if rM0 n r' = rU n r k then 1 else 0)) (2 ^ n) = (nwC (rU n r) x k + nwk (rU n r) x k k) * rPd n r
    rw [sm_add, sm_mul, cnt_M0 h1 h2 (rL_lt h1 h2 hr), rPd_L h1 h2 hr (by omega), sm_nwS h1 h2 hr k (by omega), Nat.add_mul]
theorem cnt_LA {n r x : Nat} (h1 : 1 ≤ n) (h2 : n ≤ 12) (hr : r < 2 ^ n) (hx : x < 4) : sm (fun r' => if rLA n r' x 4 = rLA n r x 4 then 1 else 0) (2 ^ n) = nwC (rU n r) x 4 * rPd n r := by
  rw [← sm_nwS h1 h2 hr 4 (Nat.le_refl _)]
  refine sm_congr _ (fun k hk => ?_)
  rcases nwS_spec (rU n r) x (rM0 n k) 4 with ⟨a, b⟩ | ⟨a, b⟩
  · rw [a, if_pos ((rLA_iff h1 h2 hr hk hx).mpr b)]
  · rw [a, if_neg (fun z => b ((rLA_iff h1 h2 hr hk hx).mp z))]
theorem x8_count_22 {n r x a S : Nat} {k5 : Int32 → Int32 → Int32 → Int32 → Int32 → Option Int32} (h1 : 1 ≤ n) (h2 : n ≤ 12) (hr : r < 2 ^ n) (hx : x < 4) (ha : a < 4) : ∀ (f b : Nat), b ≤ a → a - b < f →
    f_X8_countAlike_22 k5 f (nI r) (nI n) (nI x) (nI S) (nI a) (nI (nwk (rU n r) x a b)) (nI b) = k5 (nI r) (nI n) (nI x) (nI (S + nwk (rU n r) x a a)) (nI (a + 1))
  | 0, _, _, h => absurd h (Nat.not_lt_zero _)
  | f + 1, b, hb, hf => by
    have fin : ∀ v, v ≤ 1 → f_X8_countAlike_81 k5 (nI r) (nI n) (nI x) (nI S) (nI a) (nI v) = k5 (nI r) (nI n) (nI x) (nI (S + v)) (nI (a + 1)) := fun v hv => by
      rw [f_X8_countAlike_81]
      rcases (by omega : v = 0 ∨ v = 1) with rfl | rfl
      · rw [if_pos nI_0, f_X8_countAlike_92, lt_q, nI_1, show nI S + (0 : Int32) = nI (S + 0) from nI_add S 0]
      · rw [if_neg (by decide), f_X8_countAlike_92, lt_q, nI_1, nI_1]
    have lw := nwk_le (rU n r) x a b
    rw [f_X8_countAlike_22]
    by_cases q : a ≤ b
    · rw [if_pos ((nI_leI (by omega) (by omega)).mpr q), fin _ lw, show b = a by omega]
    · rw [if_neg (fun z => q ((nI_leI (by omega) (by omega)).mp z))]
      have IH := x8_count_22 (S := S) (k5 := k5) h1 h2 hr hx ha f (b + 1) (by omega) (by omega)
      rcases (by omega : nwk (rU n r) x a b = 0 ∨ nwk (rU n r) x a b = 1) with e | e
      · have z : ∀ d, nwk (rU n r) x a (b + d) = 0 := fun d => by
          induction d with
          | zero => exact e
          | succ d ih => rw [show b + (d + 1) = b + d + 1 by omega, nwk, if_pos ih]
        have za := z (a - b)
        rw [show b + (a - b) = a by omega] at za
        rw [e, if_pos nI_0, fin 0 (by omega), za]
      · rw [e, if_neg (by decide), x8_allows hx (show b < 4 by omega), bd_s]
        rw [nwk, if_neg (by omega)] at IH
        rcases rSub_01 b x with y | y
        · rw [if_pos y] at IH
          rw [y, if_pos nI_0, f_X8_countAlike_68, f_X8_countAlike_73, nI_1]
          exact IH
        · rw [if_neg (by omega)] at IH
          have m1 := rMn_lt (rL_lt (a := b) h1 h2 hr) (n - 1)
          have m2 := rMn_lt (rL_lt (a := a) h1 h2 hr) (n - 1)
          have p := p4096 h2
          rw [y, if_neg (by decide), x8_inWay h1 h2 hr (show b < 4 by omega), bd_s, x8_leastTurned h1 h2 (rL_lt h1 h2 hr), bd_s, x8_inWay h1 h2 hr ha, bd_s, x8_leastTurned h1 h2 (rL_lt h1 h2 hr), bd_s]
          by_cases w : rM0 n (rL n r b) = rM0 n (rL n r a)
          · rw [if_pos (show rU n r b = rU n r a from w)] at IH
            rw [if_pos (congrArg nI w), f_X8_countAlike_73, nI_1]
            exact IH
          · rw [if_neg (show ¬ rU n r b = rU n r a from w)] at IH
            rw [if_neg (fun z => w ((nI_eq (a := rMn n (rL n r b) (n - 1)) (b := rMn n (rL n r a) (n - 1)) (by omega) (by omega)).mp z)), f_X8_countAlike_68, f_X8_countAlike_73, nI_1]
            exact IH
theorem x8_count_5 {n r x : Nat} (h1 : 1 ≤ n) (h2 : n ≤ 12) (hr : r < 2 ^ n) (hx : x < 4) : ∀ (f a : Nat), a ≤ 4 → 4 - a < f →
    f_X8_countAlike_5 f (nI r) (nI n) (nI x) (nI (nwC (rU n r) x a)) (nI a) = some (nI (nwC (rU n r) x 4 * rPd n r))
  | 0, _, _, h => absurd h (Nat.not_lt_zero _)
  | f + 1, a, ha, hf => by
    rw [f_X8_countAlike_5]
    by_cases q : 3 < a
    · rw [if_pos (show (3 : Int32) < nI a from (nI_ltI (a := 3) (by omega) (by omega)).mpr q), x8_period h1 h2 hr, bd_s, pk_mul, show a = 4 by omega]
    · have ha4 : a < 4 := by omega
      rw [if_neg (show ¬ (3 : Int32) < nI a from fun z => q ((nI_ltI (a := 3) (by omega) (by omega)).mp z)), x8_allows hx ha4, bd_s]
      refine Eq.trans (x8_count_22 (n := n) (r := r) (a := a) h1 h2 hr hx ha4 kFU 0 (Nat.zero_le _) (by unfold kFU; omega)) ?_
      exact x8_count_5 h1 h2 hr hx f (a + 1) (by omega) (by omega)
theorem x8_countAlike {n r x : Nat} (h1 : 1 ≤ n) (h2 : n ≤ 12) (hr : r < 2 ^ n) (hx : x < 4) : f_X8_countAlike (nI r) (nI n) (nI x) = some (nI (nwC (rU n r) x 4 * rPd n r)) :=
  x8_count_5 h1 h2 hr hx kFU 0 (Nat.zero_le _) (by unfold kFU; omega)
