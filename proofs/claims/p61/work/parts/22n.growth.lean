/-! PARTS IN LOWEST TERMS -/
theorem lgc0 : lg_cmp (lN 0) (0 : Int64) = 0 := (lg_cmp_eq _ _).mpr rfl
theorem abs_l {U : Int64} (hU : U.toInt.natAbs < 2 ^ 63) : (if 0 < U then U else -U) = lN U.toInt.natAbs ∧ (0 ≤ lg_cmp U 0 → U = lN U.toInt.natAbs) ∧ (¬ 0 ≤ lg_cmp U 0 → -U = lN U.toInt.natAbs) := by
  have e := pk_lT hU
  have z : (0 : Int64).toInt = 0 := by decide
  have pos : 0 ≤ U.toInt → U = lN U.toInt.natAbs := fun h => Int64.toInt_inj.mp (by rw [e]; omega)
  have neg : U.toInt ≤ 0 → -U = lN U.toInt.natAbs := fun h => Int64.toInt_inj.mp (by
    rw [e, Int64.toInt_neg, Int.bmod_eq_of_le] <;> omega)
  refine ⟨?_, fun h => ?_, fun h => ?_⟩
  · by_cases q : 0 < U
    · rw [if_pos q]
      rw [Int64.lt_iff_toInt_lt, z] at q
      exact pos (by omega)
    · rw [if_neg q]
      rw [Int64.lt_iff_toInt_lt, z] at q
      exact neg (by omega)
  · rw [lg_cmp_ge, Int64.le_iff_toInt_le, z] at h
    exact pos h
  · rw [lg_cmp_ge, Int64.le_iff_toInt_le, z] at h
    exact neg (by omega)
theorem lN_abs {n : Nat} (h : n < 2 ^ 63) : (lN n).toInt.natAbs < 2 ^ 63 := by rw [pk_lT h]; omega
/-! POWERS -/
def pw (x : Int64) : Nat → Int64
  | 0 => 1
  | k + 1 => pw x k * x
theorem x2_power_5 {x : Int64} {K : Nat} (hK : K < 1000) : ∀ (f k : Nat), k ≤ K → K - k < f → f_X2_power_5 f x (nI K) (pw x k) (nI k) = some (pw x K)
  | 0, _, _, h => absurd h (Nat.not_lt_zero _)
  | f + 1, k, hk, hf => by
    rw [f_X2_power_5]
    by_cases q : K ≤ k
    · rw [if_pos ((nI_leI (by omega) (by omega)).mpr q), show k = K by omega]
    · rw [if_neg (fun z => q ((nI_leI (by omega) (by omega)).mp z)), lt_q, nI_1]
      exact x2_power_5 hK f (k + 1) (by omega) (by omega)
theorem x2_power {x : Int64} {K : Nat} (hK : K < 1000) : f_X2_power x (nI K) = some (pw x K) := x2_power_5 hK kFU 0 (Nat.zero_le _) (by unfold kFU; omega)
theorem pw_lN (a : Nat) : ∀ k, pw (lN a) k = lN (a ^ k)
  | 0 => rfl
  | k + 1 => by rw [pw, pw_lN a k, lN_mul, Nat.pow_succ]
def gP (g n c : Nat) : Nat := g ^ (n - 1 - c) * (100 - g) ^ c
theorem gP_le {g n c : Nat} (hg : g ≤ 100) (hc : c + 1 ≤ n) : gP g n c ≤ 100 ^ (n - 1) := by
  unfold gP
  have a : g ^ (n - 1 - c) ≤ 100 ^ (n - 1 - c) := Nat.pow_le_pow_left hg _
  have b : (100 - g) ^ c ≤ 100 ^ c := Nat.pow_le_pow_left (by omega) _
  have e := Nat.mul_le_mul a b
  rw [← Nat.pow_add, show n - 1 - c + c = n - 1 by omega] at e
  exact e
theorem g100 {g : Nat} (hg : g ≤ 100) : ((100 : Int32) - nI g).toInt64 = lN (100 - g) := by
  rw [show (100 : Int32) = nI 100 from rfl, pk_sub hg, nI_l (by omega)]
theorem x2_with {g n c : Nat} (hg : g ≤ 100) (hn : n ≤ 12) (hc : c + 1 ≤ n) : f_X2_withChanges (nI g) (nI n) (nI c) = some (lN (gP g n c)) := by
  rw [f_X2_withChanges, nI_m1 (by omega), pk_sub (by omega), nI_l (by omega), x2_power (by omega), bd_s, g100 hg, x2_power (by omega), bd_s, pw_lN, pw_lN, lN_mul, gP]
theorem p100 (k : Nat) : pw (100 : Int64) k = lN (100 ^ k) := pw_lN 100 k
theorem p100_lt {n : Nat} (hn : n ≤ 8) : 0 < 100 ^ (n - 1) ∧ 100 ^ (n - 1) < 2 ^ 50 ∧ 100 ^ (n - 1) ≤ 100 ^ 7 := by
  have a := Nat.pow_le_pow_right (n := 100) (by decide) (show n - 1 ≤ 7 by omega)
  have b : (100 : Nat) ^ 7 < 2 ^ 50 := by decide
  exact ⟨Nat.pow_pos (by decide), by omega, a⟩
/-! ODDS: how many sequences have c changes -/
def Cb (n c : Nat) : Nat := sm (fun r => if rP r = c then 1 else 0) (2 ^ (n - 1))
theorem Cb_next {n c : Nat} (h1 : 1 ≤ n) (hn : n ≤ 8) (hc : c + 1 ≤ n) : Cb n c * (n - 1 - c) / (c + 1) = Cb n (c + 1) ∧ Cb n c ≤ 128 := by
  have h := of_decide_eq_true (allB_at (allB_at (N := 9) (p := fun n => allB n (fun c => decide (Cb n c * (n - 1 - c) / (c + 1) = Cb n (c + 1) ∧ Cb n c ≤ 128))) (by decide +kernel) n (by omega)) c (by omega))
  exact h
theorem Cb_0 {n : Nat} (h1 : 1 ≤ n) (hn : n ≤ 8) : Cb n 0 = 1 := by
  have h := of_decide_eq_true (allB_at (N := 9) (p := fun n => decide (1 ≤ n → Cb n 0 = 1)) (by decide +kernel) n (by omega))
  exact h h1
theorem Cb_big {n c : Nat} (hn : n ≤ 8) (hc : n ≤ c) (hc8 : c < 9) : Cb n c = 0 ∨ n = 0 := by
  have h := of_decide_eq_true (allB_at (allB_at (N := 9) (p := fun n => allB 9 (fun c => decide (n ≤ c → Cb n c = 0 ∨ n = 0))) (by decide +kernel) n (by omega)) c hc8)
  exact h hc
def gL (g n : Nat) (f : Nat → Nat) : Nat → Nat
  | 0 => 0
  | m + 1 => gL g n f m + f m * gP g n m
theorem gL_inc (g n b : Nat) (f : Nat → Nat) : ∀ m, gL g n (fun c => f c + (if b = c then 1 else 0)) m = gL g n f m + (if b < m then gP g n b else 0)
  | 0 => rfl
  | m + 1 => by
    show gL g n (fun c => f c + (if b = c then 1 else 0)) m + (f m + (if b = m then 1 else 0)) * gP g n m = gL g n f m + f m * gP g n m + _
    rw [gL_inc g n b f m]
    by_cases q : b = m
    · subst q
      rw [if_neg (Nat.lt_irrefl b), if_pos rfl, if_pos (Nat.lt_succ_self b), Nat.add_mul, Nat.one_mul]; omega
    · rw [if_neg q]
      by_cases l : b < m
      · rw [if_pos l, if_pos (by omega)]; simp only [Nat.add_zero]; omega
      · rw [if_neg l, if_neg (by omega)]; simp only [Nat.add_zero]
theorem gL_congr {g n : Nat} {f f' : Nat → Nat} : ∀ m, (∀ c, c < m → f c = f' c) → gL g n f m = gL g n f' m
  | 0, _ => rfl
  | m + 1, h => by
    show gL g n f m + f m * gP g n m = gL g n f' m + f' m * gP g n m
    rw [gL_congr m (fun c hc => h c (by omega)), h m (by omega)]
theorem gL_0 (g n : Nat) : ∀ m, gL g n (fun _ => 0) m = 0
  | 0 => rfl
  | m + 1 => by
    show gL g n (fun _ => 0) m + 0 * gP g n m = 0
    rw [gL_0 g n m, Nat.zero_mul]
theorem gL_big {g n m : Nat} {f : Nat → Nat} (h : ∀ c, n ≤ c → c < m → f c = 0) : ∀ d, n + d ≤ m → gL g n f (n + d) = gL g n f n
  | 0, _ => rfl
  | d + 1, hd => by
    show gL g n f (n + d) + f (n + d) * gP g n (n + d) = _
    rw [gL_big h d (by omega), h (n + d) (by omega) (by omega), Nat.zero_mul, Nat.add_zero]
theorem gL_le {g n : Nat} (hg : g ≤ 100) (hn : n ≤ 8) (f : Nat → Nat) : ∀ m, m ≤ n → (∀ c, c < m → f c ≤ 128) → gL g n f m ≤ m * (128 * 100 ^ 7)
  | 0, _, _ => Nat.le_of_eq (by rw [Nat.zero_mul]; rfl)
  | m + 1, hm, h => by
    have a := gL_le hg hn f m (by omega) (fun c hc => h c (by omega))
    have b := Nat.mul_le_mul (h m (by omega)) (gP_le hg (n := n) (c := m) (by omega))
    have c := Nat.mul_le_mul_left 128 (p100_lt hn).2.2
    show gL g n f m + f m * gP g n m ≤ (m + 1) * (128 * 100 ^ 7)
    rw [Nat.add_mul, Nat.one_mul]
    omega
theorem x2_upTo_8 {g n ch : Nat} (hg : g ≤ 100) (h1 : 1 ≤ n) (hn : n ≤ 8) (hch : ch < 8) : ∀ (f k : Nat), k ≤ n → k ≤ ch + 1 → 9 - k < f → f_X2_upToChanges_8 f (nI g) (nI n) (nI ch) (lN (gL g n (Cb n) k)) (lN (Cb n k)) (nI k) = some (lN (gL g n (Cb n) (Nat.min n (ch + 1))))
  | 0, _, _, _, h => absurd h (Nat.not_lt_zero _)
  | f + 1, k, hk, hk2, hf => by
    rw [f_X2_upToChanges_8]
    by_cases q : ch < k
    · rw [if_pos ((nI_ltI (by omega) (by omega)).mpr q), show k = ch + 1 by omega, show Nat.min n (ch + 1) = ch + 1 from Nat.min_eq_right (by omega)]
    · rw [if_neg (fun z => q ((nI_ltI (by omega) (by omega)).mp z))]
      by_cases q2 : n ≤ k
      · rw [if_pos ((nI_leI (by omega) (by omega)).mpr q2), show k = n by omega, show Nat.min n (ch + 1) = n from Nat.min_eq_left (by omega)]
      · obtain ⟨c1, c2⟩ := Cb_next h1 hn (show k + 1 ≤ n by omega)
        have e1 : Cb n k * (n - 1 - k) ≤ 128 * 8 := Nat.mul_le_mul c2 (by omega)
        have ne : ¬ lN (k + 1) = 0 := fun z => by have := (pk_lEQ (a := k + 1) (b := 0) (by omega) (by omega)).mp z; omega
        rw [if_neg (fun z => q2 ((nI_leI (by omega) (by omega)).mp z)), x2_with hg (by omega) (by omega), bd_s, lt_q, nI_1, nI_l (by omega), gd_t _ ne, lt_q, nI_m1 h1, pk_sub (by omega), nI_l (by omega), lN_mul, lN_add, lN_mul, pk_lDiv (by omega) (by omega) (by omega), c1]
        exact x2_upTo_8 hg h1 hn hch f (k + 1) (by omega) (by omega) (by omega)
theorem x2_upTo {g n ch : Nat} (hg : g ≤ 100) (h1 : 1 ≤ n) (hn : n ≤ 8) (hch : ch < 8) : f_X2_upToChanges (nI g) (nI n) (nI ch) = some (lN (gL g n (Cb n) (ch + 1))) ∧ gL g n (Cb n) (ch + 1) < 2 ^ 63 := by
  have e : gL g n (Cb n) (Nat.min n (ch + 1)) = gL g n (Cb n) (ch + 1) := by
    rcases Nat.le_total n (ch + 1) with q | q
    · rw [show Nat.min n (ch + 1) = n from Nat.min_eq_left q]
      have z := gL_big (g := g) (n := n) (m := 9) (f := Cb n) (fun c h h' => by
        rcases Cb_big hn h h' with y | y
        · exact y
        · omega) (ch + 1 - n) (by omega)
      rw [show n + (ch + 1 - n) = ch + 1 by omega] at z
      exact z.symm
    · rw [show Nat.min n (ch + 1) = ch + 1 from Nat.min_eq_right q]
  have o := x2_upTo_8 hg h1 hn hch kFU 0 (Nat.zero_le _) (Nat.zero_le _) (by unfold kFU; omega)
  rw [Cb_0 h1 hn] at o
  have le := gL_le hg hn (Cb n) (Nat.min n (ch + 1)) (Nat.min_le_left _ _) (fun c hc => (Cb_next h1 hn (Nat.lt_of_lt_of_le hc (Nat.min_le_left _ _))).2)
  have m8 : Nat.min n (ch + 1) ≤ 8 := Nat.le_trans (Nat.min_le_left _ _) hn
  have le2 : Nat.min n (ch + 1) * (128 * 100 ^ 7) ≤ 8 * (128 * 100 ^ 7) := Nat.mul_le_mul_right _ m8
  have big : 8 * (128 * 100 ^ 7) < 2 ^ 63 := by decide
  rw [← e]
  exact ⟨o, by omega⟩
/-! ROW ODDS -/
def rCh (n r : Nat) : Nat → Nat
  | 0 => 0
  | k + 1 => rCh n r k + (if rS n r (k + 1) = rS n r k then 0 else 1)
theorem rCh_le (n r : Nat) : ∀ k, rCh n r k ≤ k
  | 0 => Nat.le_refl _
  | k + 1 => by
    have h := rCh_le n r k
    show rCh n r k + (if rS n r (k + 1) = rS n r k then 0 else 1) ≤ k + 1
    split <;> omega
/-! THE MEAN -/
def ibL (x : Int64) (A : Nat) : Prop := x.toInt.natAbs ≤ A
theorem ibL_bmod {z : Int} {A : Nat} (h : z.natAbs ≤ A) (hA : A < 2 ^ 63) : z.bmod (2 ^ 64) = z := by
  refine Int.bmod_eq_of_le ?_ ?_ <;> omega
theorem ibL_add {x y : Int64} {A B : Nat} (hx : ibL x A) (hy : ibL y B) (h : A + B < 2 ^ 63) : ibL (x + y) (A + B) := by
  unfold ibL at *
  have e : (x + y).toInt = x.toInt + y.toInt := by rw [Int64.toInt_add]; exact ibL_bmod (A := A + B) (by omega) h
  rw [e]; omega
theorem ibL_mul {x y : Int64} {A B : Nat} (hx : ibL x A) (hy : ibL y B) (h : A * B < 2 ^ 63) : ibL (x * y) (A * B) := by
  unfold ibL at *
  have m : (x.toInt * y.toInt).natAbs ≤ A * B := by rw [Int.natAbs_mul]; exact Nat.mul_le_mul hx hy
  have e : (x * y).toInt = x.toInt * y.toInt := by rw [Int64.toInt_mul]; exact ibL_bmod (A := A * B) m h
  rw [e]; exact m
theorem ibL_pw {x : Int64} (hx : ibL x 100) : ∀ k, k ≤ 8 → ibL (pw x k) (100 ^ k)
  | 0, _ => by unfold ibL pw; decide
  | k + 1, hk => by
    have a := ibL_pw hx k (by omega)
    have p : 100 ^ k ≤ 100 ^ 7 := Nat.pow_le_pow_right (by decide) (by omega)
    have b : (100 : Nat) ^ 7 * 100 < 2 ^ 63 := by decide
    rw [pw, Nat.pow_succ]
    exact ibL_mul a hx (by omega)
def gM (x : Int64) (n : Nat) : Nat → Int64
  | 0 => 0
  | k + 1 => gM x n k + pw x k * lN (100 ^ (n - 1 - k))
theorem gM_ib {x : Int64} {n : Nat} (hx : ibL x 100) (hn : n ≤ 8) : ∀ k, k ≤ n → ibL (gM x n k) (k * 100 ^ 7)
  | 0, _ => by unfold ibL gM; decide
  | k + 1, hk => by
    have a := gM_ib hx hn k (by omega)
    have p : (100 : Nat) ^ k ≤ 100 ^ 7 := Nat.pow_le_pow_right (by decide) (by omega)
    have e : (100 : Nat) ^ k * 100 ^ (n - 1 - k) ≤ 100 ^ 7 := by
      rw [← Nat.pow_add]
      exact Nat.pow_le_pow_right (by decide) (by omega)
    have q : (100 : Nat) ^ (n - 1 - k) ≤ 100 ^ 7 := Nat.pow_le_pow_right (by decide) (by omega)
    have b : 9 * (100 : Nat) ^ 7 < 2 ^ 63 := by decide
    have c : (k + 1) * 100 ^ 7 ≤ 9 * 100 ^ 7 := Nat.mul_le_mul_right _ (by omega)
    have il : ibL (lN (100 ^ (n - 1 - k))) (100 ^ (n - 1 - k)) := by unfold ibL; rw [pk_lT (by omega), Int.natAbs_natCast]; exact Nat.le_refl _
    have m := ibL_mul (ibL_pw hx k (by omega)) il (by omega)
    have m' : ibL (pw x k * lN (100 ^ (n - 1 - k))) (100 ^ 7) := Nat.le_trans m e
    rw [gM, Nat.add_mul, Nat.one_mul] at *
    exact ibL_add a m' (by omega)
theorem x2_mean_5 {g : Int32} {n : Nat} (h1 : 1 ≤ n) (hn : n ≤ 8) : ∀ (f k : Nat), k ≤ n → n - k < f → f_X2_meanTotal_5 f g (nI n) (gM (((2 : Int32) * g - (100 : Int32)).toInt64) n k) (nI k) = some (gM (((2 : Int32) * g - (100 : Int32)).toInt64) n n)
  | 0, _, _, h => absurd h (Nat.not_lt_zero _)
  | f + 1, k, hk, hf => by
    rw [f_X2_meanTotal_5]
    by_cases q : n ≤ k
    · rw [if_pos ((nI_leI (by omega) (by omega)).mpr q), show k = n by omega]
    · rw [if_neg (fun z => q ((nI_leI (by omega) (by omega)).mp z)), x2_power (by omega), bd_s, nI_m1 h1, pk_sub (by omega), x2_power (by omega), bd_s, lt_q, p100, nI_1]
      exact x2_mean_5 h1 hn f (k + 1) (by omega) (by omega)
theorem g2_ib {g : Nat} (hg : g ≤ 100) : ibL (((2 : Int32) * nI g - (100 : Int32)).toInt64) 100 := by
  unfold ibL
  rw [Int32.toInt_toInt64, show (2 : Int32) = nI 2 from rfl, pk_mul, show (100 : Int32) = nI 100 from rfl, pk_sub_toInt (by omega) (by omega)]
  omega
/-! DRAWS -/
theorem x2_draw {s : Nat} (hs : s ≤ 65536) : f_X2_drawBehind (nI s) = some (nI ((75 * s + 74) % 65537)) := by
  rw [f_X2_drawBehind, show (75 : Int32) = nI 75 from rfl, pk_mul, show (74 : Int32) = nI 74 from rfl, nI_add, show (65537 : Int32) = nI 65537 from rfl, pk_rem (by omega) (by omega) (by omega)]
