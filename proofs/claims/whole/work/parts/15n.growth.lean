/-! PARTS IN LOWEST TERMS -/
theorem lgc0 : lg_cmp (lN 0) (0 : Int64) = 0 := (lg_cmp_eq _ _).mpr rfl
theorem euclid_both : ∀ (k A B round f g : Nat), A < 2 ^ 63 → B < 2 ^ k → k ≤ 60 → round + 2 * k + 1 ≤ 200 → 2 * k + 1 ≤ f → 2 * k + 1 ≤ g → (0 < A ∨ 0 < B) →
    ∃ G : Nat, 0 < G ∧ G < 2 ^ 63 ∧ f_X11_commonMeasure_9 f (lN A) (lN B) (nI round) = some (lN G) ∧ f_X13_common_17 g (lN A) (lN B) = some (lN G)
  | 0, A, B, round, f + 1, g + 1, hA, hB, hk, hr, hf, hg, h0 => by
    have e : B = 0 := by omega
    subst e
    refine ⟨A, by omega, hA, ?_, ?_⟩
    · rw [f_X11_commonMeasure_9, if_neg (show ¬ (200 : Int32) ≤ nI round from fun z => by have := (nI_leI (a := 200) (by omega) (by omega)).mp z; omega), if_pos lgc0]
    · rw [f_X13_common_17, if_pos lgc0]
  | k + 1, A, B, round, f + 2, g + 2, hA, hB, hk, hr, hf, hg, h0 => by
    have p63 : 2 ^ (k + 1) ≤ 2 ^ 61 := Nat.pow_le_pow_right (by decide) (by omega)
    have z0 : ∀ i, i ≤ 199 → ¬ (200 : Int32) ≤ nI i := fun i hi z => by have := (nI_leI (a := 200) (by omega) (by omega)).mp z; omega
    have stop : ∀ (X i f' g' : Nat), i ≤ 199 → f_X11_commonMeasure_9 (f' + 1) (lN X) (lN 0) (nI i) = some (lN X) ∧ f_X13_common_17 (g' + 1) (lN X) (lN 0) = some (lN X) := fun X i f' g' hi => by
      refine ⟨?_, ?_⟩
      · rw [f_X11_commonMeasure_9, if_neg (z0 i hi), if_pos lgc0]
      · rw [f_X13_common_17, if_pos lgc0]
    have go : ∀ (X Y i f' g' : Nat), i ≤ 199 → 0 < Y → Y < 2 ^ 61 → X < 2 ^ 63 → f_X11_commonMeasure_9 (f' + 1) (lN X) (lN Y) (nI i) = f_X11_commonMeasure_9 f' (lN Y) (lN (X % Y)) (nI (i + 1)) ∧ f_X13_common_17 (g' + 1) (lN X) (lN Y) = f_X13_common_17 g' (lN Y) (lN (X % Y)) := fun X Y i f' g' hi h1 h2 h3 => by
      have ne : ¬ lN Y = 0 := fun z => by have := (pk_lEQ (a := Y) (b := 0) (by omega) (by omega)).mp z; omega
      have nc : ¬ (lg_cmp (lN Y) (0 : Int64)) = 0 := fun z => ne ((lg_cmp_eq _ _).mp z)
      refine ⟨?_, ?_⟩
      · rw [f_X11_commonMeasure_9, if_neg (z0 i hi), if_neg nc, gd_t _ ne, lt_q, pk_lRem h3 h1 (by omega), nI_1]
      · rw [f_X13_common_17, if_neg nc, gd_t _ ne, lt_q, pk_lRem h3 h1 (by omega)]
    by_cases q : B = 0
    · subst q
      obtain ⟨s1, s2⟩ := stop A round (f + 1) (g + 1) (by omega)
      exact ⟨A, by omega, hA, s1, s2⟩
    · have m := Nat.mod_lt A (show 0 < B by omega)
      obtain ⟨g1, g2⟩ := go A B round (f + 1) (g + 1) (by omega) (by omega) (by omega) hA
      rw [g1, g2]
      by_cases q2 : A % B = 0
      · rw [q2]
        obtain ⟨s1, s2⟩ := stop B (round + 1) f g (by omega)
        exact ⟨B, by omega, by omega, s1, s2⟩
      · have m2 := Nat.mod_lt B (show 0 < A % B by omega)
        have half : B % (A % B) < 2 ^ k := by
          rw [Nat.pow_succ] at hB
          have d := Nat.mod_add_div B (A % B)
          have d1 : 1 ≤ B / (A % B) := (Nat.one_le_div_iff (by omega)).mpr (by omega)
          have d2 : A % B ≤ A % B * (B / (A % B)) := Nat.le_mul_of_pos_right _ d1
          omega
        obtain ⟨e1, e2⟩ := go B (A % B) (round + 1) f g (by omega) (by omega) (by omega) (by omega)
        rw [e1, e2]
        exact euclid_both k (A % B) (B % (A % B)) (round + 1 + 1) f g (by omega) half (by omega) (by omega) (by omega) (by omega) (Or.inl (by omega))
  | 0, _, _, _, 0, _, _, _, _, _, hf, _, _ => by omega
  | 0, _, _, _, _ + 1, 0, _, _, _, _, _, hg, _ => by omega
  | k + 1, _, _, _, 0, _, _, _, _, _, hf, _, _ => by omega
  | k + 1, _, _, _, 1, _, _, _, _, _, hf, _, _ => by omega
  | k + 1, _, _, _, _ + 2, 0, _, _, _, _, _, hg, _ => by omega
  | k + 1, _, _, _, _ + 2, 1, _, _, _, _, _, hg, _ => by omega
theorem abs_l {U : Int64} (hU : U.toInt.natAbs < 2 ^ 63) : (if 0 < U then U else -U) = lN U.toInt.natAbs ∧ (0 ≤ lg_cmp U 0 → U = lN U.toInt.natAbs) ∧ (¬ 0 ≤ lg_cmp U 0 → -U = lN U.toInt.natAbs) := by
  have e := pk_lT hU
  have z : (0 : Int64).toInt = 0 := by decide
  have pos : 0 ≤ U.toInt → U = lN U.toInt.natAbs := fun h => Int64.toInt_inj.mp (by rw [e]; omega)
  have neg : U.toInt ≤ 0 → -U = lN U.toInt.natAbs := fun h => Int64.toInt_inj.mp (by
    rw [e, Int64.toInt_neg, Int.bmod_eq_of_le] <;> omega)
  refine ⟨?_, fun h => ?_, fun h => ?_⟩
  · by_cases q : 0 < U
    · rw [if_pos q]
      rw [Int64.lt_iff_toInt_lt, z] at q
      exact pos (by omega)
    · rw [if_neg q]
      rw [Int64.lt_iff_toInt_lt, z] at q
      exact neg (by omega)
  · rw [lg_cmp_ge, Int64.le_iff_toInt_le, z] at h
    exact pos h
  · rw [lg_cmp_ge, Int64.le_iff_toInt_le, z] at h
    exact neg (by omega)
theorem q_frac {U : Int64} {D : Nat} (hU : U.toInt.natAbs < 2 ^ 63) (h0 : 0 < D) (hD : D < 2 ^ 50) (w : Int32) : ∃ x : Int64, (∀ t, f_X11_grantedPart U (lN D) w t = some (x, 0)) ∧ ∀ b d, f_X13_fraction U (lN D) w b d = some (x, 0, -1) := by
  obtain ⟨a1, a2, a3⟩ := abs_l hU
  obtain ⟨G, g0, g1, c1, c2⟩ := euclid_both 50 U.toInt.natAbs D 0 kFU kFU hU hD (by omega) (by omega) (by unfold kFU; omega) (by unfold kFU; omega) (Or.inr h0)
  have ne : ¬ lN G = 0 := fun z => by have := (pk_lEQ (a := G) (b := 0) g1 (by omega)).mp z; omega
  have gp : 0 < lg_cmp (lN G) (0 : Int64) := (lg_cmp_gt _ _).mpr ((pk_lLT (a := 0) (by omega) g1).mpr g0)
  have cm : f_X13_common U (lN D) = some (lN G) := by
    rw [f_X13_common]
    by_cases q : 0 ≤ lg_cmp U 0
    · rw [if_pos q, f_X13_common_12, a2 q]; exact c2
    · rw [if_neg q, f_X13_common_12, a3 q]; exact c2
  refine ⟨if w = 0 then U / lN G else lN D / lN G, fun t => ?_, fun b d => ?_⟩
  · rw [f_X11_grantedPart, a1, f_X11_commonMeasure, show (0 : Int32) = nI 0 from rfl, c1, bd_s, show nI 0 = (0 : Int32) from rfl, if_pos gp]
    by_cases q : w = 0
    · rw [if_pos q, if_pos q, gd_t _ ne]
    · rw [if_neg q, if_neg q, gd_t _ ne]
  · rw [f_X13_fraction, f_X13_good, bd_s]
    by_cases q : w = 0
    · rw [if_pos q, if_pos q, f_X13_fraction_16, cm, bd_s, gd_t _ ne]
    · rw [if_neg q, if_neg q, f_X13_fraction_16, cm, bd_s, gd_t _ ne]
theorem lN_abs {n : Nat} (h : n < 2 ^ 63) : (lN n).toInt.natAbs < 2 ^ 63 := by rw [pk_lT h]; omega
theorem q_share {c : Nat} {L R V : Nat → Int32} (h : SV c L R V) (p w t a b d : Int32) : ∃ (x : Int64) (y : Int32), y ≠ 4 ∧ f_X11_share p w t (nI c) L R = some (x, y) ∧ f_X13_share p w a b d (nI c) V = some (x, 0, y, -1) := by
  rcases q_sv h p with ⟨s, n, r, hs, hs5, h1, h2, hr, -, -, -, e1, e2, e3, e4, e5, e6⟩ | ⟨e1, e2⟩
  · have h1' : 1 ≤ n := by omega
    have l := rH_le n r
    obtain ⟨x, k1, k2⟩ := q_frac (U := lN (rH n r)) (D := n) (lN_abs (by omega)) (by omega) (by omega) w
    refine ⟨x, 0, by decide, ?_, ?_⟩
    · rw [f_X11_share, e1, bd_s, if_pos rfl, e4, bd_s, e3, bd_s, x8_hexes h1' h2 hr, bd_s, nI_l (by omega), nI_l (by omega), k1, bd_s]
    · rw [f_X13_share, e2, bd_s, if_neg (by decide), e5, bd_s, e6, bd_s, x13_hexes h1' h2 hr, bd_s, bd_s, nI_l (by omega), nI_l (by omega), k2, bd_s]
  · refine ⟨-1, 1, by decide, ?_, ?_⟩
    · rw [f_X11_share, e1, bd_s, if_neg (by decide), f_X11_refused, bd_s]; rfl
    · rw [f_X13_share, e2, bd_s, if_pos rfl, f_X13_refused, bd_s]; rfl
/-! POWERS -/
def pw (x : Int64) : Nat → Int64
  | 0 => 1
  | k + 1 => pw x k * x
theorem x2_power_5 {x : Int64} {K : Nat} (hK : K < 1000) : ∀ (f k : Nat), k ≤ K → K - k < f → f_X2_power_5 f x (nI K) (pw x k) (nI k) = some (pw x K)
  | 0, _, _, h => absurd h (Nat.not_lt_zero _)
  | f + 1, k, hk, hf => by
    rw [f_X2_power_5]
    by_cases q : K ≤ k
    · rw [if_pos ((nI_leI (by omega) (by omega)).mpr q), show k = K by omega]
    · rw [if_neg (fun z => q ((nI_leI (by omega) (by omega)).mp z)), lt_q, nI_1]
      exact x2_power_5 hK f (k + 1) (by omega) (by omega)
theorem x2_power {x : Int64} {K : Nat} (hK : K < 1000) : f_X2_power x (nI K) = some (pw x K) := x2_power_5 hK kFU 0 (Nat.zero_le _) (by unfold kFU; omega)
theorem x13_power_5 {x : Int64} {K : Nat} (hK : K < 1000) : ∀ (f k : Nat), k ≤ K → K - k < f → f_X13_power_5 f x (nI K) (pw x k) (nI k) = some (pw x K)
  | 0, _, _, h => absurd h (Nat.not_lt_zero _)
  | f + 1, k, hk, hf => by
    rw [f_X13_power_5]
    by_cases q : K ≤ k
    · rw [if_pos ((nI_leI (by omega) (by omega)).mpr q), show k = K by omega]
    · rw [if_neg (fun z => q ((nI_leI (by omega) (by omega)).mp z)), lt_q, nI_1]
      exact x13_power_5 hK f (k + 1) (by omega) (by omega)
theorem x13_power {x : Int64} {K : Nat} (hK : K < 1000) : f_X13_power x (nI K) = some (pw x K) := x13_power_5 hK kFU 0 (Nat.zero_le _) (by unfold kFU; omega)
theorem pw_lN (a : Nat) : ∀ k, pw (lN a) k = lN (a ^ k)
  | 0 => rfl
  | k + 1 => by rw [pw, pw_lN a k, lN_mul, Nat.pow_succ]
/-- one sequence with c changes: its part of 100 ^ (n - 1) -/
def gP (g n c : Nat) : Nat := g ^ (n - 1 - c) * (100 - g) ^ c
theorem gP_le {g n c : Nat} (hg : g ≤ 100) (hc : c + 1 ≤ n) : gP g n c ≤ 100 ^ (n - 1) := by
  unfold gP
  have a : g ^ (n - 1 - c) ≤ 100 ^ (n - 1 - c) := Nat.pow_le_pow_left hg _
  have b : (100 - g) ^ c ≤ 100 ^ c := Nat.pow_le_pow_left (by omega) _
  have e := Nat.mul_le_mul a b
  rw [← Nat.pow_add, show n - 1 - c + c = n - 1 by omega] at e
  exact e
theorem g100 {g : Nat} (hg : g ≤ 100) : ((100 : Int32) - nI g).toInt64 = lN (100 - g) := by
  rw [show (100 : Int32) = nI 100 from rfl, pk_sub hg, nI_l (by omega)]
theorem x2_with {g n c : Nat} (hg : g ≤ 100) (hn : n ≤ 12) (hc : c + 1 ≤ n) : f_X2_withChanges (nI g) (nI n) (nI c) = some (lN (gP g n c)) := by
  rw [f_X2_withChanges, nI_m1 (by omega), pk_sub (by omega), nI_l (by omega), x2_power (by omega), bd_s, g100 hg, x2_power (by omega), bd_s, pw_lN, pw_lN, lN_mul, gP]
theorem p100 (k : Nat) : pw (100 : Int64) k = lN (100 ^ k) := pw_lN 100 k
theorem p100_lt {n : Nat} (hn : n ≤ 8) : 0 < 100 ^ (n - 1) ∧ 100 ^ (n - 1) < 2 ^ 50 ∧ 100 ^ (n - 1) ≤ 100 ^ 7 := by
  have a := Nat.pow_le_pow_right (n := 100) (by decide) (show n - 1 ≤ 7 by omega)
  have b : (100 : Nat) ^ 7 < 2 ^ 50 := by decide
  exact ⟨Nat.pow_pos (by decide), by omega, a⟩
/-! ODDS: how many sequences have c changes -/
def Cb (n c : Nat) : Nat := sm (fun r => if rP r = c then 1 else 0) (2 ^ (n - 1))
theorem Cb_next {n c : Nat} (h1 : 1 ≤ n) (hn : n ≤ 8) (hc : c + 1 ≤ n) : Cb n c * (n - 1 - c) / (c + 1) = Cb n (c + 1) ∧ Cb n c ≤ 128 := by
  have h := of_decide_eq_true (allB_at (allB_at (N := 9) (p := fun n => allB n (fun c => decide (Cb n c * (n - 1 - c) / (c + 1) = Cb n (c + 1) ∧ Cb n c ≤ 128))) (by decide +kernel) n (by omega)) c (by omega))
  exact h
theorem Cb_0 {n : Nat} (h1 : 1 ≤ n) (hn : n ≤ 8) : Cb n 0 = 1 := by
  have h := of_decide_eq_true (allB_at (N := 9) (p := fun n => decide (1 ≤ n → Cb n 0 = 1)) (by decide +kernel) n (by omega))
  exact h h1
theorem Cb_big {n c : Nat} (hn : n ≤ 8) (hc : n ≤ c) (hc8 : c < 9) : Cb n c = 0 ∨ n = 0 := by
  have h := of_decide_eq_true (allB_at (allB_at (N := 9) (p := fun n => allB 9 (fun c => decide (n ≤ c → Cb n c = 0 ∨ n = 0))) (by decide +kernel) n (by omega)) c hc8)
  exact h hc
/-- weighted by the parts, of the first m -/
def gL (g n : Nat) (f : Nat → Nat) : Nat → Nat
  | 0 => 0
  | m + 1 => gL g n f m + f m * gP g n m
theorem gL_inc (g n b : Nat) (f : Nat → Nat) : ∀ m, gL g n (fun c => f c + (if b = c then 1 else 0)) m = gL g n f m + (if b < m then gP g n b else 0)
  | 0 => rfl
  | m + 1 => by
    show gL g n (fun c => f c + (if b = c then 1 else 0)) m + (f m + (if b = m then 1 else 0)) * gP g n m = gL g n f m + f m * gP g n m + _
    rw [gL_inc g n b f m]
    by_cases q : b = m
    · subst q
      rw [if_neg (Nat.lt_irrefl b), if_pos rfl, if_pos (Nat.lt_succ_self b), Nat.add_mul, Nat.one_mul]; omega
    · rw [if_neg q]
      by_cases l : b < m
      · rw [if_pos l, if_pos (by omega)]; simp only [Nat.add_zero]; omega
      · rw [if_neg l, if_neg (by omega)]; simp only [Nat.add_zero]
theorem gL_congr {g n : Nat} {f f' : Nat → Nat} : ∀ m, (∀ c, c < m → f c = f' c) → gL g n f m = gL g n f' m
  | 0, _ => rfl
  | m + 1, h => by
    show gL g n f m + f m * gP g n m = gL g n f' m + f' m * gP g n m
    rw [gL_congr m (fun c hc => h c (by omega)), h m (by omega)]
theorem gL_0 (g n : Nat) : ∀ m, gL g n (fun _ => 0) m = 0
  | 0 => rfl
  | m + 1 => by
    show gL g n (fun _ => 0) m + 0 * gP g n m = 0
    rw [gL_0 g n m, Nat.zero_mul]
theorem gL_big {g n m : Nat} {f : Nat → Nat} (h : ∀ c, n ≤ c → c < m → f c = 0) : ∀ d, n + d ≤ m → gL g n f (n + d) = gL g n f n
  | 0, _ => rfl
  | d + 1, hd => by
    show gL g n f (n + d) + f (n + d) * gP g n (n + d) = _
    rw [gL_big h d (by omega), h (n + d) (by omega) (by omega), Nat.zero_mul, Nat.add_zero]
theorem gL_le {g n : Nat} (hg : g ≤ 100) (hn : n ≤ 8) (f : Nat → Nat) : ∀ m, m ≤ n → (∀ c, c < m → f c ≤ 128) → gL g n f m ≤ m * (128 * 100 ^ 7)
  | 0, _, _ => Nat.le_of_eq (by rw [Nat.zero_mul]; rfl)
  | m + 1, hm, h => by
    have a := gL_le hg hn f m (by omega) (fun c hc => h c (by omega))
    have b := Nat.mul_le_mul (h m (by omega)) (gP_le hg (n := n) (c := m) (by omega))
    have c := Nat.mul_le_mul_left 128 (p100_lt hn).2.2
    show gL g n f m + f m * gP g n m ≤ (m + 1) * (128 * 100 ^ 7)
    rw [Nat.add_mul, Nat.one_mul]
    omega
theorem x2_upTo_8 {g n ch : Nat} (hg : g ≤ 100) (h1 : 1 ≤ n) (hn : n ≤ 8) (hch : ch < 8) : ∀ (f k : Nat), k ≤ n → k ≤ ch + 1 → 9 - k < f → f_X2_upToChanges_8 f (nI g) (nI n) (nI ch) (lN (gL g n (Cb n) k)) (lN (Cb n k)) (nI k) = some (lN (gL g n (Cb n) (Nat.min n (ch + 1))))
  | 0, _, _, _, h => absurd h (Nat.not_lt_zero _)
  | f + 1, k, hk, hk2, hf => by
    rw [f_X2_upToChanges_8]
    by_cases q : ch < k
    · rw [if_pos ((nI_ltI (by omega) (by omega)).mpr q), show k = ch + 1 by omega, show Nat.min n (ch + 1) = ch + 1 from Nat.min_eq_right (by omega)]
    · rw [if_neg (fun z => q ((nI_ltI (by omega) (by omega)).mp z))]
      by_cases q2 : n ≤ k
      · rw [if_pos ((nI_leI (by omega) (by omega)).mpr q2), show k = n by omega, show Nat.min n (ch + 1) = n from Nat.min_eq_left (by omega)]
      · obtain ⟨c1, c2⟩ := Cb_next h1 hn (show k + 1 ≤ n by omega)
        have e1 : Cb n k * (n - 1 - k) ≤ 128 * 8 := Nat.mul_le_mul c2 (by omega)
        have ne : ¬ lN (k + 1) = 0 := fun z => by have := (pk_lEQ (a := k + 1) (b := 0) (by omega) (by omega)).mp z; omega
        rw [if_neg (fun z => q2 ((nI_leI (by omega) (by omega)).mp z)), x2_with hg (by omega) (by omega), bd_s, lt_q, nI_1, nI_l (by omega), gd_t _ ne, lt_q, nI_m1 h1, pk_sub (by omega), nI_l (by omega), lN_mul, lN_add, lN_mul, pk_lDiv (by omega) (by omega) (by omega), c1]
        exact x2_upTo_8 hg h1 hn hch f (k + 1) (by omega) (by omega) (by omega)
theorem x13_odds_51 {g n ch : Nat} {w a b d : Int32} (hg : g ≤ 100) (h1 : 1 ≤ n) (hn : n ≤ 8) (hch : ch < 8) : ∀ (f k : Nat), k ≤ 2 ^ (n - 1) → 2 ^ (n - 1) - k < f →
    f_X13_odds_51 f (nI n) (nI ch) w (lN (gL g n (fun c => sm (fun r => if rP r = c then 1 else 0) k) (ch + 1))) (nI k) a b d (nI g) = bd (f_X13_fraction (lN (gL g n (Cb n) (ch + 1))) (lN (100 ^ (n - 1))) w b d) fun t => some (t.1, a, t.2.1, t.2.2)
  | 0, _, _, h => absurd h (Nat.not_lt_zero _)
  | f + 1, k, hk, hf => by
    have l : 2 ^ (n - 1) ≤ 2 ^ 7 := Nat.pow_le_pow_right (by decide) (by omega)
    have l0 := Nat.two_pow_pos (n - 1)
    rw [f_X13_odds_51, nI_m1 h1, x13_all (by omega), bd_s]
    by_cases q : 2 ^ (n - 1) - 1 < k
    · rw [if_pos ((nI_ltI (by omega) (by omega)).mpr q), x13_power (by omega), bd_s, p100, show k = 2 ^ (n - 1) by omega]
      rfl
    · have bb : rP k ≤ n - 1 := by
        rcases Nat.eq_zero_or_pos (n - 1) with z | z
        · rw [z] at q l0 ⊢
          rw [show k = 0 by omega]; decide
        · exact rP_n z (by omega) (by omega)
      have IH := x13_odds_51 (w := w) (a := a) (b := b) (d := d) hg h1 hn hch f (k + 1) (by omega) (by omega)
      have e : gL g n (fun c => sm (fun r => if rP r = c then 1 else 0) (k + 1)) (ch + 1) = gL g n (fun c => sm (fun r => if rP r = c then 1 else 0) k) (ch + 1) + (if rP k < ch + 1 then gP g n (rP k) else 0) := gL_inc g n (rP k) (fun c => sm (fun r => if rP r = c then 1 else 0) k) (ch + 1)
      rw [e] at IH
      rw [if_neg (fun z => q ((nI_ltI (by omega) (by omega)).mp z)), x13_bits (by omega), bd_s]
      by_cases q2 : ch < rP k
      · rw [if_neg (show ¬ rP k < ch + 1 by omega), Nat.add_zero] at IH
        rw [if_pos ((nI_ltI (by omega) (by omega)).mpr q2), f_X13_odds_116, nI_1]
        exact IH
      · rw [if_pos (show rP k < ch + 1 by omega)] at IH
        rw [if_neg (fun z => q2 ((nI_ltI (by omega) (by omega)).mp z)), bd_s, g100 hg, x13_power (by omega), bd_s, bd_s, pk_sub bb, nI_l (by omega), x13_power (by omega), bd_s, lt_q, pw_lN, pw_lN, lN_mul, lN_add, f_X13_odds_116, nI_1, Nat.mul_comm]
        exact IH
theorem x2_upTo {g n ch : Nat} (hg : g ≤ 100) (h1 : 1 ≤ n) (hn : n ≤ 8) (hch : ch < 8) : f_X2_upToChanges (nI g) (nI n) (nI ch) = some (lN (gL g n (Cb n) (ch + 1))) ∧ gL g n (Cb n) (ch + 1) < 2 ^ 63 := by
  have e : gL g n (Cb n) (Nat.min n (ch + 1)) = gL g n (Cb n) (ch + 1) := by
    rcases Nat.le_total n (ch + 1) with q | q
    · rw [show Nat.min n (ch + 1) = n from Nat.min_eq_left q]
      have z := gL_big (g := g) (n := n) (m := 9) (f := Cb n) (fun c h h' => by
        rcases Cb_big hn h h' with y | y
        · exact y
        · omega) (ch + 1 - n) (by omega)
      rw [show n + (ch + 1 - n) = ch + 1 by omega] at z
      exact z.symm
    · rw [show Nat.min n (ch + 1) = ch + 1 from Nat.min_eq_right q]
  have o := x2_upTo_8 hg h1 hn hch kFU 0 (Nat.zero_le _) (Nat.zero_le _) (by unfold kFU; omega)
  rw [Cb_0 h1 hn] at o
  have le := gL_le hg hn (Cb n) (Nat.min n (ch + 1)) (Nat.min_le_left _ _) (fun c hc => (Cb_next h1 hn (Nat.lt_of_lt_of_le hc (Nat.min_le_left _ _))).2)
  have m8 : Nat.min n (ch + 1) ≤ 8 := Nat.le_trans (Nat.min_le_left _ _) hn
  have le2 : Nat.min n (ch + 1) * (128 * 100 ^ 7) ≤ 8 * (128 * 100 ^ 7) := Nat.mul_le_mul_right _ m8
  have big : 8 * (128 * 100 ^ 7) < 2 ^ 63 := by decide
  rw [← e]
  exact ⟨o, by omega⟩
theorem q_gr8 (hi : Nat) (P : Int32) (hP : P = nI hi) (h : 1 ≤ hi) (hh : hi < 1000) (p : Int32) : (∃ n : Nat, 1 ≤ n ∧ n ≤ hi ∧ p = nI n ∧ ¬ p < 1 ∧ ¬ P < p ∧ p ≤ P ∧ f_X13_refusesGrowth p P = some 0) ∨ ((p < 1 ∨ (¬ p < 1 ∧ P < p ∧ ¬ p ≤ P)) ∧ f_X13_refusesGrowth p P = some 2) := by
  rcases q_in 1 hi 1 P (nI (hi + 1)) rfl hP rfl (by omega) h p with ⟨k, k1, k2, k3, g1, g2, g3, -, -, e7⟩ | ⟨g, e7⟩
  · exact Or.inl ⟨k, k1, k2, k3, g1, g2, g3, by rw [f_X13_refusesGrowth, e7, bd_s, if_neg (by decide)]⟩
  · refine Or.inr ⟨?_, by rw [f_X13_refusesGrowth, e7, bd_s, if_pos rfl]⟩
    rcases g with g | ⟨g, g1, g2, -, -⟩
    · exact Or.inl g
    · exact Or.inr ⟨g, g1, g2⟩
theorem q_odds {g : Nat} (hg : g ≤ 100) (p q w t a b d : Int32) : ∃ (x : Int64) (y : Int32), y ≠ 4 ∧ f_X11_odds p q w t 1 (nI g) = some (x, y) ∧ f_X13_odds p q w a b d (nI g) = some (x, 0, y, -1) := by
  have bad1 : f_X11_odds_39 t 1 (nI g) = some (-1, 2) := rfl
  have bad2 : f_X13_odds_32 p q w 2 0 b d (nI g) = some (-1, 0, 2, -1) := rfl
  rcases q_gr8 8 8 rfl (by omega) (by omega) p with ⟨n, h1, hn, rfl, g1, g2, -, e1⟩ | ⟨gg, e1⟩
  · rcases q_in 0 7 0 7 8 rfl rfl rfl (by omega) (by omega) q with ⟨ch, -, hc, rfl, g3, -, -, g4, -, e7⟩ | ⟨gg, e7⟩
    · obtain ⟨u1, u2⟩ := x2_upTo (ch := ch) hg h1 hn (by omega)
      obtain ⟨p1, p2, -⟩ := p100_lt hn
      obtain ⟨x, k1, k2⟩ := q_frac (D := 100 ^ (n - 1)) (lN_abs u2) p1 p2 w
      refine ⟨x, 0, by decide, ?_, ?_⟩
      · rw [f_X11_odds, if_neg (by decide), if_neg g1, if_neg g2, if_neg g3, if_pos g4, u1, bd_s, nI_m1 h1, x2_power (by omega), bd_s, p100, k1, bd_s]
      · have o := x13_odds_51 (w := w) (a := 0) (b := b) (d := d) (ch := ch) hg h1 hn (by omega) kFU 0 (Nat.zero_le _) (by
          have l : 2 ^ (n - 1) ≤ 2 ^ 7 := Nat.pow_le_pow_right (by decide) (by omega)
          unfold kFU; omega)
        have zz : gL g n (fun c => sm (fun r => if rP r = c then 1 else 0) 0) (ch + 1) = 0 := gL_0 g n (ch + 1)
        rw [zz, k2, bd_s] at o
        rw [f_X13_odds, e1, bd_s, if_pos rfl, e7, bd_s, if_neg (by decide), f_X13_odds_32, if_pos (by decide)]
        exact o
    · refine ⟨-1, 2, by decide, ?_, ?_⟩
      · rcases gg with g3 | ⟨g3, -, -, g4, -⟩
        · rw [f_X11_odds, if_neg (by decide), if_neg g1, if_neg g2, if_pos g3, bad1]
        · rw [f_X11_odds, if_neg (by decide), if_neg g1, if_neg g2, if_neg g3, if_neg g4, bad1]
      · rw [f_X13_odds, e1, bd_s, if_pos rfl, e7, bd_s, if_pos rfl, bad2]
  · refine ⟨-1, 2, by decide, ?_, ?_⟩
    · rcases gg with g1 | ⟨g1, g2, -⟩
      · rw [f_X11_odds, if_neg (by decide), if_pos g1, bad1]
      · rw [f_X11_odds, if_neg (by decide), if_neg g1, if_pos g2, bad1]
    · rw [f_X13_odds, e1, bd_s, if_neg (by decide), bad2]
/-! ROW ODDS -/
def rCh (n r : Nat) : Nat → Nat
  | 0 => 0
  | k + 1 => rCh n r k + (if rS n r (k + 1) = rS n r k then 0 else 1)
theorem rCh_le (n r : Nat) : ∀ k, rCh n r k ≤ k
  | 0 => Nat.le_refl _
  | k + 1 => by
    have h := rCh_le n r k
    show rCh n r k + (if rS n r (k + 1) = rS n r k then 0 else 1) ≤ k + 1
    split <;> omega
theorem x8_changes {n r : Nat} (h1 : 1 ≤ n) (hn : n ≤ 8) (hr : r < 2 ^ n) : f_X8_changes (nI r) (nI n) = some (nI (rCh n r (n - 1))) := by
  have h := allB_at (allB_at (N := 8) (p := fun m => allB (2 ^ (m + 1)) (fun r => decide (f_X8_changes (nI r) (nI (m + 1)) = some (nI (rCh (m + 1) r m))))) (by decide +kernel) (n - 1) (by omega)) r (by rw [Nat.sub_add_cancel h1]; exact hr)
  rw [Nat.sub_add_cancel h1] at h
  exact of_decide_eq_true h
theorem x13_rowOdds_45 {g n r : Nat} {p w a b d C : Int32} {V : Nat → Int32} (hg : g ≤ 100) (h1 : 1 ≤ n) (hn : n ≤ 8) (hr : r < 2 ^ n) (e5 : f_X13_row p V = some (nI r)) : ∀ (f k : Nat), k + 1 ≤ n → n - k ≤ f →
    f_X13_rowOdds_45 f p w (nI n) (lN (g ^ (k - rCh n r k) * (100 - g) ^ rCh n r k)) (nI (k + 1)) a b d (nI g) C V = bd (f_X13_fraction (lN (gP g n (rCh n r (n - 1)))) (lN (100 ^ (n - 1))) w b d) fun t => some (t.1, a, t.2.1, t.2.2)
  | 0, _, h, h' => by omega
  | f + 1, k, hk, hf => by
    have l := rCh_le n r k
    rw [f_X13_rowOdds_45]
    by_cases q : n ≤ k + 1
    · have e : k = n - 1 := by omega
      rw [if_pos ((nI_leI (by omega) (by omega)).mpr q), nI_m1 h1, x13_power (by omega), bd_s, p100, e]
      rfl
    · have IH := x13_rowOdds_45 (w := w) (a := a) (b := b) (d := d) (C := C) hg h1 hn hr e5 f (k + 1) (by omega) (by omega)
      rw [if_neg (fun z => q ((nI_leI (by omega) (by omega)).mp z)), e5, bd_s, x13_step h1 (by omega) hr (by omega), bd_s, bd_s, nI_m1 (by omega), Nat.add_sub_cancel, x13_step h1 (by omega) hr (by omega), bd_s]
      by_cases e : rS n r (k + 1) = rS n r k
      · have c : rCh n r (k + 1) = rCh n r k := by rw [rCh, if_pos e, Nat.add_zero]
        rw [if_pos ((rSv_eq (rS_lt _ _ _) (rS_lt _ _ _)).mpr e), f_X13_rowOdds_102, lt_q, nI_l (by omega), lN_mul, nI_1]
        rw [c, show k + 1 - rCh n r k = (k - rCh n r k) + 1 by omega, Nat.pow_succ, Nat.mul_right_comm] at IH
        exact IH
      · have c : rCh n r (k + 1) = rCh n r k + 1 := by rw [rCh, if_neg e]
        rw [if_neg (fun z => e ((rSv_eq (rS_lt _ _ _) (rS_lt _ _ _)).mp z)), f_X13_rowOdds_102, lt_q, g100 hg, lN_mul, nI_1]
        rw [c, show k + 1 - (rCh n r k + 1) = k - rCh n r k by omega, Nat.pow_succ, ← Nat.mul_assoc] at IH
        exact IH
theorem q_rowOdds {c g : Nat} {L R V : Nat → Int32} (h : SV c L R V) (hg : g ≤ 100) (p w t a b d : Int32) : ∃ (x : Int64) (y : Int32), y ≠ 4 ∧ f_X11_rowOdds p w t (nI c) (nI g) L R = some (x, y) ∧ f_X13_rowOdds p w a b d (nI g) (nI c) V = some (x, 0, y, -1) := by
  rcases q_sv h p with ⟨s, n, r, hs, hs5, h1, h2, hr, -, -, -, e1, e2, e3, e4, e5, e6⟩ | ⟨e1, e2⟩
  · have h1' : 1 ≤ n := by omega
    by_cases q : n ≤ 8
    · have z : nI n ≤ (8 : Int32) := (nI_leI (b := 8) (by omega) (by omega)).mpr q
      obtain ⟨p1, p2, p3⟩ := p100_lt q
      have l := rCh_le n r (n - 1)
      have gl := gP_le (n := n) (c := rCh n r (n - 1)) hg (by omega)
      obtain ⟨x, k1, k2⟩ := q_frac (U := lN (gP g n (rCh n r (n - 1)))) (D := 100 ^ (n - 1)) (lN_abs (by omega)) p1 p2 w
      refine ⟨x, 0, by decide, ?_, ?_⟩
      · rw [f_X11_rowOdds, e1, bd_s, if_pos rfl, e4, bd_s, if_pos z, e3, bd_s, x8_changes h1' q hr, bd_s, x2_with hg h2 (by omega), bd_s, nI_m1 h1', x2_power (by omega), bd_s, p100, k1, bd_s]
      · have o := x13_rowOdds_45 (w := w) (a := 0) (b := b) (d := d) (C := nI c) hg h1' q hr e5 kFU 0 h1' (by unfold kFU; omega)
        rw [k2, bd_s] at o
        rw [f_X13_rowOdds, e2, bd_s, if_neg (by decide), e6, bd_s, if_pos z]
        exact o
    · have z : ¬ nI n ≤ (8 : Int32) := fun z => q ((nI_leI (b := 8) (by omega) (by omega)).mp z)
      refine ⟨-1, 5, by decide, ?_, ?_⟩
      · rw [f_X11_rowOdds, e1, bd_s, if_pos rfl, e4, bd_s, if_neg z, f_X11_refused, bd_s]; rfl
      · rw [f_X13_rowOdds, e2, bd_s, if_neg (by decide), e6, bd_s, if_neg z, f_X13_refused, bd_s]; rfl
  · refine ⟨-1, 1, by decide, ?_, ?_⟩
    · rw [f_X11_rowOdds, e1, bd_s, if_neg (by decide), f_X11_refused, bd_s]; rfl
    · rw [f_X13_rowOdds, e2, bd_s, if_pos rfl, f_X13_refused, bd_s]; rfl
/-! THE MEAN -/
def ibL (x : Int64) (A : Nat) : Prop := x.toInt.natAbs ≤ A
theorem ibL_bmod {z : Int} {A : Nat} (h : z.natAbs ≤ A) (hA : A < 2 ^ 63) : z.bmod (2 ^ 64) = z := by
  refine Int.bmod_eq_of_le ?_ ?_ <;> omega
theorem ibL_add {x y : Int64} {A B : Nat} (hx : ibL x A) (hy : ibL y B) (h : A + B < 2 ^ 63) : ibL (x + y) (A + B) := by
  unfold ibL at *
  have e : (x + y).toInt = x.toInt + y.toInt := by rw [Int64.toInt_add]; exact ibL_bmod (A := A + B) (by omega) h
  rw [e]; omega
theorem ibL_mul {x y : Int64} {A B : Nat} (hx : ibL x A) (hy : ibL y B) (h : A * B < 2 ^ 63) : ibL (x * y) (A * B) := by
  unfold ibL at *
  have m : (x.toInt * y.toInt).natAbs ≤ A * B := by rw [Int.natAbs_mul]; exact Nat.mul_le_mul hx hy
  have e : (x * y).toInt = x.toInt * y.toInt := by rw [Int64.toInt_mul]; exact ibL_bmod (A := A * B) m h
  rw [e]; exact m
theorem ibL_pw {x : Int64} (hx : ibL x 100) : ∀ k, k ≤ 8 → ibL (pw x k) (100 ^ k)
  | 0, _ => by unfold ibL pw; decide
  | k + 1, hk => by
    have a := ibL_pw hx k (by omega)
    have p : 100 ^ k ≤ 100 ^ 7 := Nat.pow_le_pow_right (by decide) (by omega)
    have b : (100 : Nat) ^ 7 * 100 < 2 ^ 63 := by decide
    rw [pw, Nat.pow_succ]
    exact ibL_mul a hx (by omega)
def gM (x : Int64) (n : Nat) : Nat → Int64
  | 0 => 0
  | k + 1 => gM x n k + pw x k * lN (100 ^ (n - 1 - k))
theorem gM_ib {x : Int64} {n : Nat} (hx : ibL x 100) (hn : n ≤ 8) : ∀ k, k ≤ n → ibL (gM x n k) (k * 100 ^ 7)
  | 0, _ => by unfold ibL gM; decide
  | k + 1, hk => by
    have a := gM_ib hx hn k (by omega)
    have p : (100 : Nat) ^ k ≤ 100 ^ 7 := Nat.pow_le_pow_right (by decide) (by omega)
    have e : (100 : Nat) ^ k * 100 ^ (n - 1 - k) ≤ 100 ^ 7 := by
      rw [← Nat.pow_add]
      exact Nat.pow_le_pow_right (by decide) (by omega)
    have q : (100 : Nat) ^ (n - 1 - k) ≤ 100 ^ 7 := Nat.pow_le_pow_right (by decide) (by omega)
    have b : 9 * (100 : Nat) ^ 7 < 2 ^ 63 := by decide
    have c : (k + 1) * 100 ^ 7 ≤ 9 * 100 ^ 7 := Nat.mul_le_mul_right _ (by omega)
    have il : ibL (lN (100 ^ (n - 1 - k))) (100 ^ (n - 1 - k)) := by unfold ibL; rw [pk_lT (by omega), Int.natAbs_natCast]; exact Nat.le_refl _
    have m := ibL_mul (ibL_pw hx k (by omega)) il (by omega)
    have m' : ibL (pw x k * lN (100 ^ (n - 1 - k))) (100 ^ 7) := Nat.le_trans m e
    rw [gM, Nat.add_mul, Nat.one_mul] at *
    exact ibL_add a m' (by omega)
theorem x2_mean_5 {g : Int32} {n : Nat} (h1 : 1 ≤ n) (hn : n ≤ 8) : ∀ (f k : Nat), k ≤ n → n - k < f → f_X2_meanTotal_5 f g (nI n) (gM (((2 : Int32) * g - (100 : Int32)).toInt64) n k) (nI k) = some (gM (((2 : Int32) * g - (100 : Int32)).toInt64) n n)
  | 0, _, _, h => absurd h (Nat.not_lt_zero _)
  | f + 1, k, hk, hf => by
    rw [f_X2_meanTotal_5]
    by_cases q : n ≤ k
    · rw [if_pos ((nI_leI (by omega) (by omega)).mpr q), show k = n by omega]
    · rw [if_neg (fun z => q ((nI_leI (by omega) (by omega)).mp z)), x2_power (by omega), bd_s, nI_m1 h1, pk_sub (by omega), x2_power (by omega), bd_s, lt_q, p100, nI_1]
      exact x2_mean_5 h1 hn f (k + 1) (by omega) (by omega)
theorem x13_mean_33 {g w a b d : Int32} {n : Nat} (h1 : 1 ≤ n) (hn : n ≤ 8) : ∀ (f k : Nat), k ≤ n → n - k < f → f_X13_meanSum_33 f (nI n) w (gM (((2 : Int32) * g - (100 : Int32)).toInt64) n k) (nI k) a b d g = bd (f_X13_fraction (gM (((2 : Int32) * g - (100 : Int32)).toInt64) n n) (lN (100 ^ (n - 1))) w b d) fun t => some (t.1, a, t.2.1, t.2.2)
  | 0, _, _, h => absurd h (Nat.not_lt_zero _)
  | f + 1, k, hk, hf => by
    rw [f_X13_meanSum_33]
    by_cases q : n ≤ k
    · rw [if_pos ((nI_leI (by omega) (by omega)).mpr q), nI_m1 h1, x13_power (by omega), bd_s, p100, show k = n by omega]
    · rw [if_neg (fun z => q ((nI_leI (by omega) (by omega)).mp z)), x13_power (by omega), bd_s, nI_m1 h1, pk_sub (by omega), x13_power (by omega), bd_s, lt_q, p100, nI_1]
      exact x13_mean_33 h1 hn f (k + 1) (by omega) (by omega)
theorem g2_ib {g : Nat} (hg : g ≤ 100) : ibL (((2 : Int32) * nI g - (100 : Int32)).toInt64) 100 := by
  unfold ibL
  rw [Int32.toInt_toInt64, show (2 : Int32) = nI 2 from rfl, pk_mul, show (100 : Int32) = nI 100 from rfl, pk_sub_toInt (by omega) (by omega)]
  omega
theorem q_meanSum {g : Nat} (hg : g ≤ 100) (p w t a b d : Int32) : ∃ (x : Int64) (y : Int32), y ≠ 4 ∧ f_X11_meanSum p w t 1 (nI g) = some (x, y) ∧ f_X13_meanSum p w a b d (nI g) = some (x, 0, y, -1) := by
  have bad1 : f_X11_meanSum_30 t 1 (nI g) = some ((-1000000 : Int32).toInt64, 2) := rfl
  rcases q_gr8 8 8 rfl (by omega) (by omega) p with ⟨n, h1, hn, rfl, g1, -, g2, e1⟩ | ⟨gg, e1⟩
  · obtain ⟨p1, p2, -⟩ := p100_lt hn
    have ib := gM_ib (g2_ib hg) hn n (Nat.le_refl _)
    have c : n * 100 ^ 7 ≤ 8 * 100 ^ 7 := Nat.mul_le_mul_right _ hn
    have c2 : 8 * (100 : Nat) ^ 7 < 2 ^ 63 := by decide
    unfold ibL at ib
    obtain ⟨x, k1, k2⟩ := q_frac (U := gM (((2 : Int32) * nI g - (100 : Int32)).toInt64) n n) (D := 100 ^ (n - 1)) (by omega) p1 p2 w
    refine ⟨x, 0, by decide, ?_, ?_⟩
    · have o := x2_mean_5 (g := nI g) h1 hn kFU 0 (Nat.zero_le _) (by unfold kFU; omega)
      rw [f_X11_meanSum, if_neg (by decide), if_neg g1, if_pos g2, f_X2_meanTotal, show f_X2_meanTotal_5 kFU (nI g) (nI n) 0 0 = _ from o, bd_s, nI_m1 h1, x2_power (by omega), bd_s, p100, k1, bd_s]
    · have o := x13_mean_33 (g := nI g) (w := w) (a := 0) (b := b) (d := d) h1 hn kFU 0 (Nat.zero_le _) (by unfold kFU; omega)
      rw [k2, bd_s] at o
      rw [f_X13_meanSum, e1, bd_s, if_pos (by decide)]
      exact o
  · refine ⟨(-1000000 : Int32).toInt64, 2, by decide, ?_, ?_⟩
    · rcases gg with g1 | ⟨g1, -, g2⟩
      · rw [f_X11_meanSum, if_neg (by decide), if_pos g1, bad1]
      · rw [f_X11_meanSum, if_neg (by decide), if_neg g1, if_neg g2, bad1]
    · rw [f_X13_meanSum, e1, bd_s, if_neg (by decide), f_X13_lost, f_X13_refused, bd_s, bd_s]
/-! DRAWS -/
theorem x13_isLike {g : Int32} {s : Nat} (hs : s ≤ 65536) : f_X13_isLike (nI s) g = if g ≤ nI ((75 * s + 74) % 65537) - nI ((75 * s + 74) % 65537) / (100 : Int32) * (100 : Int32) then some (0, nI ((75 * s + 74) % 65537)) else some (1, nI ((75 * s + 74) % 65537)) := by
  rw [f_X13_isLike, nI_l (by omega), show (75 : Int64) = lN 75 from rfl, lN_mul, show (74 : Int64) = lN 74 from rfl, lN_add, show (65537 : Int64) = lN 65537 from rfl, pk_lRem (by omega) (by omega) (by omega), lN_i, lt_q]
theorem x2_draw {s : Nat} (hs : s ≤ 65536) : f_X2_drawBehind (nI s) = some (nI ((75 * s + 74) % 65537)) := by
  rw [f_X2_drawBehind, show (75 : Int32) = nI 75 from rfl, pk_mul, show (74 : Int32) = nI 74 from rfl, nI_add, show (65537 : Int32) = nI 65537 from rfl, pk_rem (by omega) (by omega) (by omega)]
theorem q_seed (p : Int32) : (∃ s : Nat, s ≤ 65536 ∧ p = nI s ∧ f_X11_isNoSeed p = some 0 ∧ f_X13_in p 0 65536 = some 1) ∨ (f_X11_isNoSeed p = some 1 ∧ f_X13_in p 0 65536 = some 0) := by
  rcases q_in 0 65536 0 65536 65537 rfl rfl rfl (by omega) (by omega) p with ⟨k, -, k2, rfl, g1, -, g2, -, -, e7⟩ | ⟨g, e7⟩
  · exact Or.inl ⟨k, k2, rfl, by rw [f_X11_isNoSeed, if_neg g1, if_pos g2], e7⟩
  · refine Or.inr ⟨?_, e7⟩
    rcases g with g | ⟨g, -, g', -, -⟩
    · rw [f_X11_isNoSeed, if_pos g]
    · rw [f_X11_isNoSeed, if_neg g, if_neg g']
theorem q_grow_l {g a b d : Int32} {n : Nat} (hn : n ≤ 300) : ∀ (f k s : Nat) (x : Int32), s ≤ 65536 → k ≤ n → n - k < f →
    ∃ y s' : Int32, f_X2_rowBy_8 f g (nI n) x (nI s) (nI k) = some y ∧ f_X13_grown_51 f (nI n) x (nI k) (nI s) a b d g = some (y, s', a, 0, -1)
  | 0, _, _, _, _, _, hf => absurd hf (Nat.not_lt_zero _)
  | f + 1, k, s, x, hs, hk, hf => by
    rw [f_X2_rowBy_8, f_X13_grown_51]
    by_cases q : n ≤ k
    · have z := (nI_leI (a := n) (b := k) (by omega) (by omega)).mpr q
      rw [if_pos z, if_pos z]
      exact ⟨x, nI s, rfl, rfl⟩
    · have z : ¬ nI n ≤ nI k := fun z => q ((nI_leI (by omega) (by omega)).mp z)
      have m : (75 * s + 74) % 65537 ≤ 65536 := by have := Nat.mod_lt (75 * s + 74) (show 0 < 65537 by decide); omega
      rw [if_neg z, if_neg z, x2_draw hs, x13_isLike hs, bd_s, lt_q]
      by_cases e : g ≤ nI ((75 * s + 74) % 65537) - nI ((75 * s + 74) % 65537) / (100 : Int32) * (100 : Int32)
      · rw [if_pos e, if_pos e, bd_s, if_pos rfl, f_X2_rowBy_47, lt_q, f_X13_grown_81, lt_q, nI_1, Int32.mul_comm x 2]
        exact q_grow_l hn f (k + 1) _ _ m (by omega) (by omega)
      · rw [if_neg e, if_neg e, bd_s, if_neg (show ¬ (1 : Int32) = 0 by decide), f_X2_rowBy_47, lt_q, f_X13_grown_81, lt_q, nI_1, Int32.mul_comm x 2]
        exact q_grow_l hn f (k + 1) _ _ m (by omega) (by omega)
theorem q_grown (p w t s0 a b d g : Int32) : ∃ x y s' : Int32, y ≠ 4 ∧ f_X11_grown p w t 1 g = some (x, y) ∧ f_X13_grown p w s0 a b d g = some (x, s', 0, y, -1) := by
  have bad1 : f_X11_grown_35 t 1 g = some (-1, 2) := rfl
  have bad2 : f_X13_grown_30 p w 2 s0 0 b d g = some (-1, s0, 0, 2, -1) := rfl
  rcases q_gr8 12 12 rfl (by omega) (by omega) w with ⟨n, h1, hn, rfl, g1, -, g2, e1⟩ | ⟨gg, e1⟩
  · rcases q_seed p with ⟨s, hs, rfl, e7, e8⟩ | ⟨e7, e8⟩
    · obtain ⟨y, s', r1, r2⟩ := q_grow_l (g := g) (a := 0) (b := b) (d := d) (n := n) (by omega) kFU 1 s 1 hs h1 (by unfold kFU; omega)
      refine ⟨y, 0, s', by decide, ?_, ?_⟩
      · rw [f_X11_grown, if_neg (by decide), e7, bd_s, if_pos rfl, if_neg g1, if_pos g2, f_X2_rowBy, show f_X2_rowBy_8 kFU g (nI n) 1 (nI s) 1 = some y from r1, bd_s, f_X11_granted, bd_s]
      · rw [f_X13_grown, e1, bd_s, if_pos rfl, e8, bd_s, if_neg (by decide), f_X13_grown_30, if_pos (by decide)]
        exact r2
    · refine ⟨-1, 2, s0, by decide, ?_, ?_⟩
      · rw [f_X11_grown, if_neg (by decide), e7, bd_s, if_neg (by decide), bad1]
      · rw [f_X13_grown, e1, bd_s, if_pos rfl, e8, bd_s, if_pos rfl, bad2]
  · refine ⟨-1, 2, s0, by decide, ?_, ?_⟩
    · have o : ∀ v : Int32, (v = 0 ∨ v = 1) → f_X11_isNoSeed p = some v → f_X11_grown p w t 1 g = some (-1, 2) := fun v hv e => by
        rw [f_X11_grown, if_neg (by decide), e, bd_s]
        rcases hv with rfl | rfl
        · rw [if_pos rfl]
          rcases gg with g1 | ⟨g1, -, g2⟩
          · rw [if_pos g1, bad1]
          · rw [if_neg g1, if_neg g2, bad1]
        · rw [if_neg (by decide), bad1]
      rcases q_seed p with ⟨s, -, -, e7, -⟩ | ⟨e7, -⟩
      · exact o 0 (Or.inl rfl) e7
      · exact o 1 (Or.inr rfl) e7
    · rw [f_X13_grown, e1, bd_s, if_neg (by decide), bad2]
theorem q_long_l {g a b d : Int32} {n : Nat} (hn : n ≤ 300) : ∀ (f k s : Nat) (m x : Int32), s ≤ 65536 → k ≤ n → n - k < f →
    ∃ y s' : Int32, f_X2_longestBy_11 f g (nI n) m x (nI s) (nI k) = some y ∧ f_X13_longestRun_55 f (nI n) x m (nI k) (nI s) a b d g = some (y, s', a, 0, -1)
  | 0, _, _, _, _, _, _, hf => absurd hf (Nat.not_lt_zero _)
  | f + 1, k, s, m, x, hs, hk, hf => by
    rw [f_X2_longestBy_11, f_X13_longestRun_55]
    by_cases q : n ≤ k
    · have z := (nI_leI (a := n) (b := k) (by omega) (by omega)).mpr q
      rw [if_pos z, if_pos z]
      exact ⟨m, nI s, rfl, rfl⟩
    · have z : ¬ nI n ≤ nI k := fun z => q ((nI_leI (by omega) (by omega)).mp z)
      have md : (75 * s + 74) % 65537 ≤ 65536 := by have := Nat.mod_lt (75 * s + 74) (show 0 < 65537 by decide); omega
      have go : ∀ v : Int32, ∃ y s' : Int32, f_X2_longestBy_41 (fun x0 x2 x3 x4 x5 x6 => f_X2_longestBy_11 f x0 x2 x3 x4 x5 x6) g (nI n) m (nI ((75 * s + 74) % 65537)) (nI k) v = some y ∧ f_X13_longestRun_76 (fun x2 x4 x5 x6 s t u v w => f_X13_longestRun_55 f x2 x4 x5 x6 s t u v w) (nI n) m (nI k) v (nI ((75 * s + 74) % 65537)) a b d g = some (y, s', a, 0, -1) := fun v => by
        rw [f_X2_longestBy_41, lt_q, f_X13_longestRun_76]
        by_cases e : v ≤ m
        · rw [if_pos e, if_neg (fun y => by rw [Int32.lt_iff_toInt_lt] at y; rw [Int32.le_iff_toInt_le] at e; omega), f_X13_longestRun_89, nI_1]
          exact q_long_l hn f (k + 1) _ _ _ md (by omega) (by omega)
        · rw [if_neg e, if_pos (by rw [Int32.lt_iff_toInt_lt]; rw [Int32.le_iff_toInt_le] at e; omega), f_X13_longestRun_89, nI_1]
          exact q_long_l hn f (k + 1) _ _ _ md (by omega) (by omega)
      rw [if_neg z, if_neg z, x2_draw hs, x13_isLike hs, bd_s]
      by_cases e : g ≤ nI ((75 * s + 74) % 65537) - nI ((75 * s + 74) % 65537) / (100 : Int32) * (100 : Int32)
      · rw [if_pos e, if_pos e, bd_s, if_pos rfl]
        exact go 1
      · rw [if_neg e, if_neg e, bd_s, if_neg (show ¬ (1 : Int32) = 0 by decide)]
        exact go (x + 1)
theorem q_longestRun (p w t s0 a b d g : Int32) : ∃ x y s' : Int32, y ≠ 4 ∧ f_X11_longestRun p w t 1 g = some (x, y) ∧ f_X13_longestRun p w s0 a b d g = some (x, s', 0, y, -1) := by
  have bad1 : f_X11_longestRun_36 t 1 g = some (-1, 2) := rfl
  have bad2 : f_X13_longestRun_31 p w 2 s0 0 b d g = some (-1, s0, 0, 2, -1) := rfl
  rcases q_gr8 200 200 rfl (by omega) (by omega) w with ⟨n, h1, hn, rfl, g1, -, g2, e1⟩ | ⟨gg, e1⟩
  · rcases q_seed p with ⟨s, hs, rfl, e7, e8⟩ | ⟨e7, e8⟩
    · obtain ⟨y, s', r1, r2⟩ := q_long_l (g := g) (a := 0) (b := b) (d := d) (n := n) (by omega) kFU 1 s 1 1 hs h1 (by unfold kFU; omega)
      refine ⟨y, 0, s', by decide, ?_, ?_⟩
      · rw [f_X11_longestRun, if_neg (by decide), e7, bd_s, if_pos rfl, if_neg g1, if_pos g2, f_X2_longestBy, show f_X2_longestBy_11 kFU g (nI n) 1 1 (nI s) 1 = some y from r1, bd_s, f_X11_granted, bd_s]
      · rw [f_X13_longestRun, e1, bd_s, if_pos rfl, e8, bd_s, if_neg (by decide), f_X13_longestRun_31, if_pos (by decide)]
        exact r2
    · refine ⟨-1, 2, s0, by decide, ?_, ?_⟩
      · rw [f_X11_longestRun, if_neg (by decide), e7, bd_s, if_neg (by decide), bad1]
      · rw [f_X13_longestRun, e1, bd_s, if_pos rfl, e8, bd_s, if_pos rfl, bad2]
  · refine ⟨-1, 2, s0, by decide, ?_, ?_⟩
    · have o : ∀ v : Int32, (v = 0 ∨ v = 1) → f_X11_isNoSeed p = some v → f_X11_longestRun p w t 1 g = some (-1, 2) := fun v hv e => by
        rw [f_X11_longestRun, if_neg (by decide), e, bd_s]
        rcases hv with rfl | rfl
        · rw [if_pos rfl]
          rcases gg with g1 | ⟨g1, -, g2⟩
          · rw [if_pos g1, bad1]
          · rw [if_neg g1, if_neg g2, bad1]
        · rw [if_neg (by decide), bad1]
      rcases q_seed p with ⟨s, -, -, e7, -⟩ | ⟨e7, -⟩
      · exact o 0 (Or.inl rfl) e7
      · exact o 1 (Or.inr rfl) e7
    · rw [f_X13_longestRun, e1, bd_s, if_neg (by decide), bad2]
