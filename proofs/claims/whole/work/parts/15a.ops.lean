/-! ONE STACK OF BOTH PROGRAMS, AND THE FIRST CALLS OF A STACK -/
/-- the stacks now: c of them, of each its length and row, on both sides -/
def SV (c : Nat) (L R V : Nat → Int32) : Prop := c ≤ 5 ∧ ∀ s, s < c → ∃ n r : Nat, 2 ≤ n ∧ n ≤ 12 ∧ r < 2 ^ n ∧ L s = nI n ∧ R s = nI r ∧ V s = nI n ∧ V (5 + s) = nI r
theorem bd_s {α β : Type} (a : α) (k : α → Option β) : bd (some a) k = k a := congrArg (fun x => x) (bd_some a k)
theorem lt_q {α β : Type} (e : α) (k : α → Option β) : lt e k = k e := congrArg (fun x => x) (lt_eq e k)
theorem i10 : ((1 : Int32) = 0) = False := by decide
theorem i00 : ((0 : Int32) = 0) = True := by decide
theorem x11_at {N i : Nat} {w : Nat → Int32} (hN : N < 2 ^ 31) (h : i < N) : f_X11_at N (nI i) w = some (w i) := by
  rw [f_X11_at, if_neg (nI_pos (by omega)), if_neg (show ¬ Int32.ofNat N ≤ nI i from nI_ge h hN), gd_t _ (nI_in h hN), nI_clamp (by omega)]
theorem x11_set {N i : Nat} {w : Nat → Int32} {v : Int32} (hN : N < 2 ^ 31) (h : i < N) : f_X11_set N (nI i) v w = some (upd w i v) := by
  rw [f_X11_set, if_neg (nI_pos (by omega)), if_neg (show ¬ Int32.ofNat N ≤ nI i from nI_ge h hN), gd_t _ (nI_in h hN), nI_clamp (by omega)]; rfl
theorem q_c {c : Nat} (hc : c ≤ 5) (p : Int32) : (∃ s, s < c ∧ p = nI s ∧ f_X11_lacks p (nI c) = some 0 ∧ f_X13_isStack p (nI c) = some 1) ∨ (f_X11_lacks p (nI c) = some 1 ∧ f_X13_isStack p (nI c) = some 0) := by
  by_cases h0 : p < 0
  · right
    rw [f_X11_lacks, if_pos h0, f_X13_isStack, if_pos h0]; exact ⟨rfl, rfl⟩
  · obtain ⟨j, hj, rfl⟩ := nI_of h0
    by_cases h1 : j < c
    · left
      refine ⟨j, h1, rfl, ?_, ?_⟩
      · rw [f_X11_lacks, if_neg h0, if_pos ((nI_ltI hj (by omega)).mpr h1)]
      · rw [f_X13_isStack, if_neg h0, if_neg (nI_ge h1 (by omega))]
    · right
      refine ⟨?_, ?_⟩
      · rw [f_X11_lacks, if_neg h0, if_neg (nI_nlt (by omega) (by omega))]
      · rw [f_X13_isStack, if_neg h0, if_pos (nI_le (by omega) (by omega))]
theorem x9_row {s : Nat} {w : Nat → Int32} (h : s < 5) : f_X9_row (nI s) w = some (w s) := by rw [f_X9_row, x11_at (by omega) h, bd_s]
theorem x9_steps {s : Nat} {w : Nat → Int32} (h : s < 5) : f_X9_steps (nI s) w = some (w s) := by rw [f_X9_steps, x11_at (by omega) h, bd_s]
theorem x13_steps {s : Nat} {w : Nat → Int32} (h : s < 5) : f_X13_steps (nI s) w = some (w s) := by rw [f_X13_steps, gd_t _ (nI_in (by omega) (by omega)), nI_clamp (by omega)]
theorem x13_row {s : Nat} {w : Nat → Int32} (h : s < 5) : f_X13_row (nI s) w = some (w (5 + s)) := by
  rw [f_X13_row, show (5 : Int32) + nI s = nI (5 + s) from nI_add 5 s, gd_t _ (nI_in (by omega) (by omega)), nI_clamp (by omega)]
/-- what a call finds at a number of a stack -/
theorem q_sv {c : Nat} {L R V : Nat → Int32} (h : SV c L R V) (p : Int32) : (∃ s n r : Nat, s < c ∧ s < 5 ∧ 2 ≤ n ∧ n ≤ 12 ∧ r < 2 ^ n ∧ p = nI s ∧ L s = nI n ∧ R s = nI r ∧ f_X11_lacks p (nI c) = some 0 ∧ f_X13_isStack p (nI c) = some 1 ∧ f_X9_row p R = some (nI r) ∧ f_X9_steps p L = some (nI n) ∧ f_X13_row p V = some (nI r) ∧ f_X13_steps p V = some (nI n)) ∨ (f_X11_lacks p (nI c) = some 1 ∧ f_X13_isStack p (nI c) = some 0) := by
  rcases q_c h.1 p with ⟨s, h1, rfl, e1, e2⟩ | e
  · obtain ⟨n, r, a1, a2, a3, a4, a5, a6, a7⟩ := h.2 s h1
    have h5 : s < 5 := Nat.lt_of_lt_of_le h1 h.1
    exact Or.inl ⟨s, n, r, h1, h5, a1, a2, a3, rfl, a4, a5, e1, e2, by rw [x9_row h5, a5], by rw [x9_steps h5, a4], by rw [x13_row h5, a7], by rw [x13_steps h5, a6]⟩
  · exact Or.inr e
/-- a number within bounds, or not, as both sides ask -/
theorem q_in (lo hi : Nat) (P Q Q1 : Int32) (hP : P = nI lo) (hQ : Q = nI hi) (hQ1 : Q1 = nI (hi + 1)) (hh : hi < 2 ^ 30) (hl : lo ≤ hi) (p : Int32) : (∃ k : Nat, lo ≤ k ∧ k ≤ hi ∧ p = nI k ∧ ¬ p < P ∧ ¬ Q < p ∧ p ≤ Q ∧ p < Q1 ∧ ¬ Q1 ≤ p ∧ f_X13_in p P Q = some 1) ∨ ((p < P ∨ (¬ p < P ∧ Q < p ∧ ¬ p ≤ Q ∧ ¬ p < Q1 ∧ Q1 ≤ p)) ∧ f_X13_in p P Q = some 0) := by
  subst hP hQ hQ1
  by_cases h0 : p < nI lo
  · exact Or.inr ⟨Or.inl h0, by rw [f_X13_in, if_pos h0]⟩
  · have hp : ¬ p < 0 := by
      rw [Int32.lt_iff_toInt_lt, nI_toInt (by omega)] at h0
      rw [Int32.lt_iff_toInt_lt]
      have h00 : (0 : Int32).toInt = 0 := by decide
      omega
    obtain ⟨j, hj, rfl⟩ := nI_of hp
    by_cases h1 : nI hi < nI j
    · have h2 : hi < j := (nI_ltI (by omega) hj).mp h1
      exact Or.inr ⟨Or.inr ⟨h0, h1, nI_ge h2 hj, nI_nlt (by omega) hj, nI_le (by omega) hj⟩, by rw [f_X13_in, if_neg h0, if_pos h1]⟩
    · have h2 : ¬ hi < j := fun z => h1 ((nI_ltI (by omega) hj).mpr z)
      left
      refine ⟨j, ?_, by omega, rfl, h0, h1, nI_le (by omega) (by omega), nI_lt (by omega) (by omega), nI_ge (by omega) (by omega), by rw [f_X13_in, if_neg h0, if_neg h1]⟩
      rw [nI_ltI hj (by omega)] at h0; omega
theorem x8_total {n r : Nat} (h2 : n ≤ 12) (hr : r < 2 ^ n) : f_X8_total (nI r) (nI n) = some ((2 : Int32) * nI (rP r) - nI n) := by rw [f_X8_total, j6_bitCount (r4096 h2 hr), bd_s]
theorem x13_sumOf {n r : Nat} (h2 : n ≤ 12) (hr : r < 2 ^ n) : f_X13_sumOf (nI r) (nI n) = some ((2 : Int32) * nI (rP r) - nI n) := by rw [f_X13_sumOf, x13_bits (r4096 h2 hr), bd_s]
theorem q_sum {c : Nat} {L R V : Nat → Int32} (h : SV c L R V) (p t a b d : Int32) : ∃ x y : Int32, y ≠ 4 ∧ f_X11_sum p t (nI c) L R = some (x, y) ∧ f_X13_sum p a b d (nI c) V = some (x, 0, y, -1) := by
  rcases q_sv h p with ⟨s, n, r, hs, hs5, h1, h2, hr, -, -, -, e1, e2, e3, e4, e5, e6⟩ | ⟨e1, e2⟩
  · refine ⟨(2 : Int32) * nI (rP r) - nI n, 0, by decide, ?_, ?_⟩
    · simp only [f_X11_sum, e1, e3, e4, bd_s, if_true, x8_total h2 hr, f_X11_granted]
    · simp only [f_X13_sum, e2, e5, e6, bd_s, i10, if_false, x13_sumOf h2 hr, f_X13_good]
  · refine ⟨-100, 1, by decide, ?_, ?_⟩
    · simp only [f_X11_sum, e1, bd_s, i10, if_false, f_X11_refused]
    · simp only [f_X13_sum, e2, bd_s, if_true, f_X13_lost, f_X13_refused]
theorem rH_le (n r : Nat) : rH n r ≤ 12 := rPc_le 12 _
theorem x8_runs {n r : Nat} (h1 : 1 ≤ n) (h2 : n ≤ 12) (hr : r < 2 ^ n) : f_X8_runs (nI r) (nI n) = some (nI (if rH n r = 0 then 1 else rH n r)) := by
  have l := rH_le n r
  rw [f_X8_runs, x8_hexes h1 h2 hr, bd_s]
  by_cases q : 1 < rH n r
  · rw [if_pos (show (1 : Int32) < nI (rH n r) from (nI_ltI (a := 1) (by omega) (by omega)).mpr q), if_neg (by omega)]
  · rw [if_neg (show ¬ (1 : Int32) < nI (rH n r) from fun z => q ((nI_ltI (a := 1) (by omega) (by omega)).mp z))]
    by_cases q0 : rH n r = 0
    · rw [if_pos q0]; rfl
    · rw [if_neg q0, show rH n r = 1 by omega]; rfl
theorem x13_runsOf {n r : Nat} (h1 : 1 ≤ n) (h2 : n ≤ 12) (hr : r < 2 ^ n) : f_X13_runsOf (nI r) (nI n) = some (nI (if rH n r = 0 then 1 else rH n r)) := by
  have l := rH_le n r
  rw [f_X13_runsOf, x13_hexes h1 h2 hr, bd_s]
  by_cases q0 : rH n r = 0
  · rw [if_pos q0, q0, if_pos nI_0]; rfl
  · rw [if_neg q0, if_neg (nI_ne0 (by omega) (by omega))]
theorem q_stack {c : Nat} {L R V : Nat → Int32} (h : SV c L R V) (p w t a b d : Int32) : ∃ x y : Int32, y ≠ 4 ∧ f_X11_stack p w t (nI c) L R = some (x, y) ∧ f_X13_stack p w a b d (nI c) V = some (x, 0, y, -1) := by
  rcases q_sv h p with ⟨s, n, r, hs, hs5, h1, h2, hr, -, -, -, e1, e2, e3, e4, e5, e6⟩ | ⟨e1, e2⟩
  · have h1' : 1 ≤ n := by omega
    rcases q_in 0 5 0 5 6 rfl rfl rfl (by omega) (by omega) w with ⟨k, -, hk, rfl, g1, -, g2, -, -, e7⟩ | ⟨g, e7⟩
    · rcases (by omega : k = 0 ∨ k = 1 ∨ k = 2 ∨ k = 3 ∨ k = 4 ∨ k = 5) with rfl | rfl | rfl | rfl | rfl | rfl
      · exact ⟨nI n, 0, by decide, by simp (decide := true) only [f_X11_stack, e1, e3, e4, bd_s, if_true, if_false, f_X11_granted], by simp (decide := true) only [f_X13_stack, e2, e5, e6, e7, bd_s, if_false, if_true, f_X13_good]⟩
      · exact ⟨nI r, 0, by decide, by simp (decide := true) only [f_X11_stack, e1, e3, e4, bd_s, if_true, if_false, f_X11_granted], by simp (decide := true) only [f_X13_stack, e2, e5, e6, e7, bd_s, if_false, if_true, f_X13_good]⟩
      · exact ⟨nI (rRep n r), 0, by decide, by simp (decide := true) only [f_X11_stack, e1, e3, e4, bd_s, if_true, if_false, f_X11_granted, x8_repeats h1' h2 hr], by simp (decide := true) only [f_X13_stack, e2, e5, e6, e7, bd_s, if_false, if_true, f_X13_good, x13_repeats h1' h2 hr]⟩
      · exact ⟨nI (rPd n r), 0, by decide, by simp (decide := true) only [f_X11_stack, e1, e3, e4, bd_s, if_true, if_false, f_X11_granted, x8_period h1' h2 hr], by simp (decide := true) only [f_X13_stack, e2, e5, e6, e7, bd_s, if_false, if_true, f_X13_good, x13_itself h1' h2 hr]⟩
      · exact ⟨nI (rH n r), 0, by decide, by simp (decide := true) only [f_X11_stack, e1, e3, e4, bd_s, if_true, if_false, f_X11_granted, x8_hexes h1' h2 hr], by simp (decide := true) only [f_X13_stack, e2, e5, e6, e7, bd_s, if_false, if_true, f_X13_good, x13_hexes h1' h2 hr]⟩
      · exact ⟨nI (if rH n r = 0 then 1 else rH n r), 0, by decide, by simp (decide := true) only [f_X11_stack, e1, e3, e4, bd_s, if_true, if_false, f_X11_granted, x8_runs h1' h2 hr], by simp (decide := true) only [f_X13_stack, e2, e5, e6, e7, bd_s, if_false, if_true, f_X13_good, x13_runsOf h1' h2 hr]⟩
    · refine ⟨-1, 1, by decide, ?_, ?_⟩
      · rcases g with g | ⟨g, -, g', -, -⟩
        · simp only [f_X11_stack, e1, bd_s, if_true, g, f_X11_stack_17, f_X11_refused]
        · simp only [f_X11_stack, e1, bd_s, if_true, g, g', if_false, f_X11_stack_17, f_X11_refused]
      · simp only [f_X13_stack, e2, e7, bd_s, i10, if_false, if_true, f_X13_stack_22, f_X13_refused]
  · refine ⟨-1, 1, by decide, ?_, ?_⟩
    · simp only [f_X11_stack, e1, bd_s, i10, if_false, f_X11_stack_17, f_X11_refused]
    · simp only [f_X13_stack, e2, bd_s, if_true, f_X13_stack_22, f_X13_refused]
/-! LETTERS, LAYERS ALIKE -/
theorem rRep_le {n r : Nat} (h2 : n ≤ 12) : rRep n r ≤ 36 := by unfold rRep; split <;> omega
theorem rRep_pos {n r : Nat} (h1 : 1 ≤ n) : 1 ≤ rRep n r := by unfold rRep; split <;> omega
theorem rS_rep (n r k : Nat) : rS n r (k + rRep n r) = rS n r k := by
  unfold rRep
  split
  · exact rS_per n r k
  · rw [show k + 3 * n = k + n + n + n by omega, rS_per, rS_per, rS_per]
theorem rLt_R {n r : Nat} (h1 : 1 ≤ n) (h2 : n ≤ 12) (hr : r < 2 ^ n) : rLt n r (rRep n r) = 0 := of_decide_eq_true (allR_at (p := fun n r => decide (rLt n r (rRep n r) = 0)) (by decide +kernel) h1 h2 hr)
theorem rLt_per {n r : Nat} (h1 : 1 ≤ n) (h2 : n ≤ 12) (hr : r < 2 ^ n) : ∀ k, rLt n r (k + rRep n r) = rLt n r k
  | 0 => by rw [Nat.zero_add, rLt_R h1 h2 hr]; rfl
  | k + 1 => by
    rw [show k + 1 + rRep n r = (k + rRep n r) + 1 by omega]
    show (rLt n r (k + rRep n r) + (if rS n r (k + rRep n r) = 0 then 2 else 1)) % 3 = (rLt n r k + (if rS n r k = 0 then 2 else 1)) % 3
    rw [rLt_per h1 h2 hr k, rS_rep]
theorem rLt_mod {n r : Nat} (h1 : 1 ≤ n) (h2 : n ≤ 12) (hr : r < 2 ^ n) : ∀ (q k : Nat), rLt n r (k + rRep n r * q) = rLt n r k
  | 0, k => by rw [Nat.mul_zero, Nat.add_zero]
  | q + 1, k => by rw [Nat.mul_succ, ← Nat.add_assoc, rLt_per h1 h2 hr, rLt_mod h1 h2 hr q k]
theorem rLt_rem {n r k : Nat} (h1 : 1 ≤ n) (h2 : n ≤ 12) (hr : r < 2 ^ n) : rLt n r (k % rRep n r) = rLt n r k := by
  have h := rLt_mod h1 h2 hr (k / rRep n r) (k % rRep n r)
  rw [Nat.mod_add_div] at h
  exact h.symm
theorem rl_next {p b : Nat} (hp : p < 3) (hb : b < 2) : ((nI p + rSv b) + (3 : Int32)) - ((nI p + rSv b) + (3 : Int32)) / (3 : Int32) * (3 : Int32) = nI ((p + (if b = 0 then 2 else 1)) % 3) :=
  of_decide_eq_true (allB_at (allB_at (N := 3) (p := fun p => allB 2 (fun b => decide (((nI p + rSv b) + (3 : Int32)) - ((nI p + rSv b) + (3 : Int32)) / (3 : Int32) * (3 : Int32) = nI ((p + (if b = 0 then 2 else 1)) % 3)))) (by decide +kernel) p hp) b hb)
theorem x13_lays_12 {n r : Nat} (h1 : 1 ≤ n) (h2 : n ≤ 12) (hr : r < 2 ^ n) : ∀ (f i : Nat) (w : Nat → Int32), i ≤ rRep n r → rRep n r - i < f → (∀ j, j < i → w j = nI (rLt n r j)) →
    ∃ w', f_X13_lays_12 f (nI r) (nI n) (nI (rRep n r)) (nI (rLt n r i)) (nI i) w = some (nI (rRep n r), w') ∧ ∀ j, j < rRep n r → w' j = nI (rLt n r j)
  | 0, _, _, _, h, _ => absurd h (Nat.not_lt_zero _)
  | f + 1, i, w, hi, hf, hw => by
    have l := rRep_le (n := n) (r := r) h2
    rw [f_X13_lays_12]
    by_cases q : rRep n r ≤ i
    · rw [if_pos ((nI_leI (by omega) (by omega)).mpr q)]
      exact ⟨w, rfl, fun j hj => hw j (by omega)⟩
    · rw [if_neg (fun z => q ((nI_leI (by omega) (by omega)).mp z)), gd_t _ (nI_in (by omega) (by omega)), lt_q, x13_step h1 h2 hr (by omega), bd_s, lt_q, rl_next (rLt_lt n r i) (rS_lt n r i), nI_1, nI_clamp (by omega)]
      refine x13_lays_12 h1 h2 hr f (i + 1) _ (by omega) (by omega) (fun j hj => ?_)
      by_cases e : j = i
      · rw [e, pk_us]
      · rw [pk_un e]; exact hw j (by omega)
theorem x13_lays {n r : Nat} (h1 : 1 ≤ n) (h2 : n ≤ 12) (hr : r < 2 ^ n) (w : Nat → Int32) : ∃ w', f_X13_lays (nI r) (nI n) w = some (nI (rRep n r), w') ∧ ∀ j, j < rRep n r → w' j = nI (rLt n r j) := by
  have l := rRep_le (n := n) (r := r) h2
  rw [f_X13_lays, x13_repeats h1 h2 hr, bd_s]
  exact x13_lays_12 h1 h2 hr kFU 0 w (Nat.zero_le _) (by unfold kFU; omega) (fun j hj => absurd hj (Nat.not_lt_zero _))
theorem q_layer {c : Nat} {L R V : Nat → Int32} (h : SV c L R V) (p w t a b d : Int32) (u : Nat → Int32) : ∃ (x y : Int32) (u' : Nat → Int32), y ≠ 4 ∧ f_X11_layer p w t (nI c) L R = some (x, y) ∧ f_X13_layer p w a b d (nI c) u V = some (x, 0, y, -1, u') := by
  rcases q_sv h p with ⟨s, n, r, hs, hs5, h1, h2, hr, -, -, -, e1, e2, e3, e4, e5, e6⟩ | ⟨e1, e2⟩
  · have h1' : 1 ≤ n := by omega
    rcases q_in 0 35 0 35 36 rfl rfl rfl (by omega) (by omega) w with ⟨k, -, hk, rfl, g1, -, -, g2, -, e7⟩ | ⟨g, e7⟩
    · obtain ⟨u', e8, e9⟩ := x13_lays h1' h2 hr u
      have l := rRep_le (n := n) (r := r) h2
      have l0 := rRep_pos (n := n) (r := r) h1'
      have m := Nat.mod_lt k l0
      refine ⟨nI (rLt n r k), 0, u', by decide, ?_, ?_⟩
      · simp only [f_X11_layer, e1, e3, e4, bd_s, if_true, if_false, g1, g2, f_X11_granted, x8_letterAt h1' h2 hr (show k < 100000 by omega)]
      · simp only [f_X13_layer, e2, e5, e6, e7, e8, bd_s, i10, if_false, pk_rem (show k < 2 ^ 31 by omega) l0 (show rRep n r < 2 ^ 31 by omega)]
        rw [gd_t _ (nI_ne0 l0 (by omega)), gd_t _ (nI_in (by omega) (by omega)), nI_clamp (by omega), e9 _ m, rLt_rem h1' h2 hr]
        rfl
    · refine ⟨-1, 2, u, by decide, ?_, ?_⟩
      · rcases g with g | ⟨g, -, -, g', -⟩
        · simp only [f_X11_layer, e1, bd_s, if_true, g, f_X11_layer_25, f_X11_refused]
        · simp only [f_X11_layer, e1, bd_s, if_true, g, g', if_false, f_X11_layer_25, f_X11_refused]
      · simp only [f_X13_layer, e2, e7, bd_s, i10, if_false, if_true, f_X13_refused]
  · refine ⟨-1, 1, u, by decide, ?_, ?_⟩
    · simp only [f_X11_layer, e1, bd_s, i10, if_false, f_X11_refused]
    · simp only [f_X13_layer, e2, bd_s, if_true, f_X13_refused]
/-- of the first k layers, how many are alike the one m on -/
def rAg (n r m : Nat) : Nat → Nat
  | 0 => 0
  | k + 1 => rAg n r m k + (if rLt n r k = rLt n r (m + k) then 1 else 0)
theorem rAg_le (n r m : Nat) : ∀ k, rAg n r m k ≤ k
  | 0 => Nat.le_refl _
  | k + 1 => by
    have h := rAg_le n r m k
    show rAg n r m k + (if rLt n r k = rLt n r (m + k) then 1 else 0) ≤ k + 1
    split <;> omega
theorem rTi_add (n r m : Nat) : ∀ k, rT n (rTi n r (m + k)) = rTi n r (m + (k + 1))
  | _ => rfl
theorem x8_layersAlike_27 {n r m : Nat} (h1 : 1 ≤ n) (h2 : n ≤ 12) (hr : r < 2 ^ n) : ∀ (f k : Nat), k ≤ rRep n r → rRep n r - k < f →
    f_X8_layersAlike_27 f (nI r) (nI n) (nI (rAg n r m k)) (nI (rLt n r k)) (nI (rLt n r (m + k))) (nI (rTi n r k)) (nI (rTi n r (m + k))) (nI k) = some (nI (rAg n r m (rRep n r)))
  | 0, _, _, h => absurd h (Nat.not_lt_zero _)
  | f + 1, k, hk, hf => by
    have l := rRep_le (n := n) (r := r) h2
    have l3 := rLt_lt n r k
    have l4 := rLt_lt n r (m + k)
    rw [f_X8_layersAlike_27, x8_repeats h1 h2 hr, bd_s]
    by_cases q : rRep n r ≤ k
    · rw [if_pos ((nI_leI (by omega) (by omega)).mpr q), show rRep n r = k by omega]
    · have IH := x8_layersAlike_27 (m := m) h1 h2 hr f (k + 1) (by omega) (by omega)
      have s1 := x8_startsUp h1 h2 (rTi_lt h1 h2 hr k)
      have s2 := x8_startsUp h1 h2 (rTi_lt h1 h2 hr (m + k))
      rw [rTi_S h1 h2 hr k 0, Nat.zero_add] at s1
      rw [rTi_S h1 h2 hr (m + k) 0, Nat.zero_add] at s2
      have b1 := x8_letterBehind l3 (rS_lt n r k)
      have b2 := x8_letterBehind l4 (rS_lt n r (m + k))
      have t1 := x8_turned h1 h2 (rTi_lt h1 h2 hr k)
      have t2 := x8_turned h1 h2 (rTi_lt h1 h2 hr (m + k))
      rw [if_neg (fun z => q ((nI_leI (by omega) (by omega)).mp z))]
      by_cases e : rLt n r k = rLt n r (m + k)
      · have a : rAg n r m (k + 1) = rAg n r m k + 1 := by rw [rAg, if_pos e]
        rw [if_pos ((nI_eq (by omega) (by omega)).mpr e)]
        simp only [f_X8_layersAlike_50, lt_q, s1, s2, b1, b2, t1, t2, bd_s, nI_1]
        rw [← a]; exact IH
      · have a : rAg n r m (k + 1) = rAg n r m k := by rw [rAg, if_neg e, Nat.add_zero]
        rw [if_neg (fun z => e ((nI_eq (by omega) (by omega)).mp z))]
        simp only [f_X8_layersAlike_50, lt_q, s1, s2, b1, b2, t1, t2, bd_s, nI_1]
        rw [show nI (rAg n r m k) + (0 : Int32) = nI (rAg n r m k + 0) from nI_add _ 0, Nat.add_zero, ← a]; exact IH
theorem x8_layersAlike {n r m : Nat} (h1 : 1 ≤ n) (h2 : n ≤ 12) (hr : r < 2 ^ n) (hm : m ≤ 36) : f_X8_layersAlike (nI r) (nI n) (nI m) = some (nI (rAg n r m (rRep n r))) := by
  have l := rRep_le (n := n) (r := r) h2
  rw [f_X8_layersAlike, x8_letterAt h1 h2 hr (by omega), bd_s, x8_turnedBy h1 h2 hr (by omega), bd_s]
  exact x8_layersAlike_27 (m := m) h1 h2 hr kFU 0 (Nat.zero_le _) (by unfold kFU; omega)
theorem x13_agreeOf_14 {n r m : Nat} (h1 : 1 ≤ n) (h2 : n ≤ 12) (hr : r < 2 ^ n) (hm : m ≤ 36) {w : Nat → Int32} (hw : ∀ j, j < rRep n r → w j = nI (rLt n r j)) : ∀ (f k : Nat), k ≤ rRep n r → rRep n r - k < f →
    f_X13_agreeOf_14 f (nI m) (nI (rRep n r)) (nI (rAg n r m k)) (nI k) w = some (nI (rAg n r m (rRep n r)), w)
  | 0, _, _, h => absurd h (Nat.not_lt_zero _)
  | f + 1, k, hk, hf => by
    have l := rRep_le (n := n) (r := r) h2
    have l0 := rRep_pos (n := n) (r := r) h1
    have l3 := rLt_lt n r k
    have l4 := rLt_lt n r (m + k)
    rw [f_X13_agreeOf_14]
    by_cases q : rRep n r ≤ k
    · rw [if_pos ((nI_leI (by omega) (by omega)).mpr q), show rRep n r = k by omega]
    · have IH := x13_agreeOf_14 h1 h2 hr hm hw f (k + 1) (by omega) (by omega)
      have md := Nat.mod_lt (k + m) l0
      rw [if_neg (fun z => q ((nI_leI (by omega) (by omega)).mp z)), gd_t _ (nI_in (by omega) (by omega)), gd_t _ (nI_ne0 l0 (by omega)), nI_add, pk_rem (by omega) l0 (by omega), gd_t _ (nI_in (by omega) (by omega)), nI_clamp (by omega), nI_clamp (by omega), hw k (by omega), hw _ md, rLt_rem h1 h2 hr, Nat.add_comm k m]
      by_cases e : rLt n r k = rLt n r (m + k)
      · have a : rAg n r m (k + 1) = rAg n r m k + 1 := by rw [rAg, if_pos e]
        rw [if_pos ((nI_eq (by omega) (by omega)).mpr e)]
        simp only [f_X13_agreeOf_50, lt_q, nI_1]
        rw [← a]; exact IH
      · have a : rAg n r m (k + 1) = rAg n r m k := by rw [rAg, if_neg e, Nat.add_zero]
        rw [if_neg (fun z => e ((nI_eq (by omega) (by omega)).mp z))]
        simp only [f_X13_agreeOf_50, lt_q, nI_1]
        rw [show nI (rAg n r m k) + (0 : Int32) = nI (rAg n r m k + 0) from nI_add _ 0, Nat.add_zero, ← a]; exact IH
theorem x13_agreeOf {n r m : Nat} (h1 : 1 ≤ n) (h2 : n ≤ 12) (hr : r < 2 ^ n) (hm : m ≤ 36) (w : Nat → Int32) : ∃ w', f_X13_agreeOf (nI r) (nI n) (nI m) w = some (nI (rAg n r m (rRep n r)), w') := by
  have l := rRep_le (n := n) (r := r) h2
  obtain ⟨w', e1, e2⟩ := x13_lays h1 h2 hr w
  refine ⟨w', ?_⟩
  rw [f_X13_agreeOf, e1, bd_s]
  exact x13_agreeOf_14 h1 h2 hr hm e2 kFU 0 (Nat.zero_le _) (by unfold kFU; omega)
theorem q_agree {c : Nat} {L R V : Nat → Int32} (h : SV c L R V) (p w t a b d : Int32) (u : Nat → Int32) : ∃ (x y : Int32) (u' : Nat → Int32), y ≠ 4 ∧ f_X11_agree p w t (nI c) L R = some (x, y) ∧ f_X13_agree p w a b d (nI c) u V = some (x, 0, y, -1, u') := by
  rcases q_sv h p with ⟨s, n, r, hs, hs5, h1, h2, hr, -, -, -, e1, e2, e3, e4, e5, e6⟩ | ⟨e1, e2⟩
  · have h1' : 1 ≤ n := by omega
    rcases q_in 1 36 1 36 37 rfl rfl rfl (by omega) (by omega) w with ⟨k, -, hk, rfl, g1, -, g2, -, -, e7⟩ | ⟨g, e7⟩
    · obtain ⟨u', e8⟩ := x13_agreeOf h1' h2 hr hk u
      refine ⟨nI (rAg n r k (rRep n r)), 0, u', by decide, ?_, ?_⟩
      · simp only [f_X11_agree, e1, e3, e4, bd_s, if_true, if_false, g1, g2, f_X11_granted, x8_layersAlike h1' h2 hr hk]
      · simp only [f_X13_agree, e2, e5, e6, e7, e8, bd_s, i10, if_false, f_X13_good]
    · refine ⟨-1, 2, u, by decide, ?_, ?_⟩
      · rcases g with g | ⟨g, -, g', -, -⟩
        · simp only [f_X11_agree, e1, bd_s, if_true, g, f_X11_agree_26, f_X11_refused]
        · simp only [f_X11_agree, e1, bd_s, if_true, g, g', if_false, f_X11_agree_26, f_X11_refused]
      · simp only [f_X13_agree, e2, e7, bd_s, i10, if_false, if_true, f_X13_refused]
  · refine ⟨-1, 1, u, by decide, ?_, ?_⟩
    · simp only [f_X11_agree, e1, bd_s, i10, if_false, f_X11_refused]
    · simp only [f_X13_agree, e2, bd_s, if_true, f_X13_refused]
/-! HEXAGONAL LAYERS, RUNS -/
theorem rv_b1 {x : Nat} (hx : x < 4096) : nI x &&& (1 : Int32) = nI (x % 2) := pk_andN (by omega) 1 rfl
theorem rS_last {n r : Nat} (h1 : 1 ≤ n) : r % 2 = rS n r (n - 1) := by
  unfold rS
  rw [Nat.mod_eq_of_lt (show n - 1 < n by omega), Nat.sub_self, Nat.pow_zero, Nat.div_one]
theorem x8_begins {n r k : Nat} (h1 : 1 ≤ n) (h2 : n ≤ 12) (hr : r < 2 ^ n) : f_X8_beginsRun (nI (rTi n r k)) (nI n) = some (nI (rX n r k)) := by
  have l := rTi_lt h1 h2 hr k
  have s1 := x8_startsUp h1 h2 l
  rw [rTi_S h1 h2 hr k 0, Nat.zero_add] at s1
  have s2 : rTi n r k % 2 = rS n r (k + n - 1) := by rw [rS_last h1, rTi_S h1 h2 hr k (n - 1)]; congr 1; omega
  rw [f_X8_beginsRun, s1, bd_s, rv_b1 (r4096 h2 l), s2]
  have l1 := rS_lt n r k
  have l2 := rS_lt n r (k + n - 1)
  unfold rX
  generalize rS n r k = A at *
  generalize rS n r (k + n - 1) = B at *
  rcases (by omega : A = 0 ∨ A = 1) with rfl | rfl <;> rcases (by omega : B = 0 ∨ B = 1) with rfl | rfl <;> decide
theorem rX_per {n r k : Nat} (h1 : 1 ≤ n) : rX n r (k + n) = rX n r k := by
  unfold rX
  rw [rS_per, show k + n + n - 1 = (k + n - 1) + n by omega, rS_per]
theorem q_hex {c : Nat} {L R V : Nat → Int32} (h : SV c L R V) (p w t a b d : Int32) : ∃ x y : Int32, y ≠ 4 ∧ f_X11_hex p w t (nI c) L R = some (x, y) ∧ f_X13_hex p w a b d (nI c) V = some (x, 0, y, -1) := by
  rcases q_sv h p with ⟨s, n, r, hs, hs5, h1, h2, hr, -, -, -, e1, e2, e3, e4, e5, e6⟩ | ⟨e1, e2⟩
  · have h1' : 1 ≤ n := by omega
    rcases q_in 0 35 0 35 36 rfl rfl rfl (by omega) (by omega) w with ⟨k, -, hk, rfl, g1, -, -, g2, -, e7⟩ | ⟨g, e7⟩
    · rcases rX_01 n r k with e | e
      · exact ⟨0, 0, by decide, by simp only [f_X11_hex, e1, e3, e4, bd_s, if_true, if_false, g1, g2, f_X11_granted, x8_turnedBy h1' h2 hr (show k < 100000 by omega), x8_begins h1' h2 hr, e, nI_0, f_X11_hex_71], by simp only [f_X13_hex, e2, e5, e6, e7, bd_s, i10, if_false, if_true, x13_isHex h1' h2 hr (show k < 2 ^ 30 by omega), e, nI_0, f_X13_hex_58, f_X13_good]⟩
      · exact ⟨1, 0, by decide, by simp (decide := true) only [f_X11_hex, e1, e3, e4, bd_s, if_true, if_false, g1, g2, f_X11_granted, x8_turnedBy h1' h2 hr (show k < 100000 by omega), x8_begins h1' h2 hr, e, f_X11_hex_71], by simp (decide := true) only [f_X13_hex, e2, e5, e6, e7, bd_s, if_false, if_true, x13_isHex h1' h2 hr (show k < 2 ^ 30 by omega), e, f_X13_hex_58, f_X13_good]⟩
    · refine ⟨-1, 2, by decide, ?_, ?_⟩
      · rcases g with g | ⟨g, -, -, g', -⟩
        · simp only [f_X11_hex, e1, bd_s, if_true, g, f_X11_hex_25, f_X11_refused]
        · simp only [f_X11_hex, e1, bd_s, if_true, g, g', if_false, f_X11_hex_25, f_X11_refused]
      · simp only [f_X13_hex, e2, e7, bd_s, i10, if_false, if_true, f_X13_refused]
  · refine ⟨-1, 1, by decide, ?_, ?_⟩
    · simp only [f_X11_hex, e1, bd_s, i10, if_false, f_X11_refused]
    · simp only [f_X13_hex, e2, bd_s, if_true, f_X13_refused]
