/-! GROWTH (the class alone): parts in lowest terms, odds, means, rows and runs by a seed -/
theorem eu_gcd : ∀ (k A B round f : Nat), A < 2 ^ 63 → B < 2 ^ k → k ≤ 60 → round + 2 * k + 1 ≤ 200 → 2 * k + 1 ≤ f → f_X11_commonMeasure_9 f (lN A) (lN B) (nI round) = some (lN (Nat.gcd A B))
  | 0, A, B, round, f + 1, hA, hB, hk, hr, hf => by
    have e : B = 0 := by omega
    subst e
    rw [Nat.gcd_zero_right, f_X11_commonMeasure_9, if_neg (show ¬ (200 : Int32) ≤ nI round from nI_ge (b := 200) (by omega) (by decide)), if_pos lgc0]
  | k + 1, A, B, round, f + 2, hA, hB, hk, hr, hf => by
    have p63 : 2 ^ (k + 1) ≤ 2 ^ 61 := Nat.pow_le_pow_right (by decide) (by omega)
    have z0 : ∀ i, i ≤ 199 → ¬ (200 : Int32) ≤ nI i := fun i hi => nI_ge (b := 200) (by omega) (by decide)
    have stop : ∀ (X i f' : Nat), i ≤ 199 → f_X11_commonMeasure_9 (f' + 1) (lN X) (lN 0) (nI i) = some (lN X) := fun X i f' hi => by
      rw [f_X11_commonMeasure_9, if_neg (z0 i hi), if_pos lgc0]
    have go : ∀ (X Y i f' : Nat), i ≤ 199 → 0 < Y → Y < 2 ^ 61 → X < 2 ^ 63 → f_X11_commonMeasure_9 (f' + 1) (lN X) (lN Y) (nI i) = f_X11_commonMeasure_9 f' (lN Y) (lN (X % Y)) (nI (i + 1)) := fun X Y i f' hi h1 h2 h3 => by
      have ne : ¬ lN Y = 0 := fun z => by have := (pk_lEQ (a := Y) (b := 0) (by omega) (by omega)).mp z; omega
      have nc : ¬ (lg_cmp (lN Y) (0 : Int64)) = 0 := fun z => ne ((lg_cmp_eq _ _).mp z)
      rw [f_X11_commonMeasure_9, if_neg (z0 i hi), if_neg nc, gd_t _ ne, lt_q, pk_lRem h3 h1 (by omega), nI_1]
    have gg : ∀ X Y : Nat, Nat.gcd Y (X % Y) = Nat.gcd X Y := fun X Y => by
      rw [Nat.gcd_comm Y, ← Nat.gcd_rec, Nat.gcd_comm]
    by_cases q : B = 0
    · subst q
      rw [Nat.gcd_zero_right]
      exact stop A round (f + 1) (by omega)
    · have m := Nat.mod_lt A (show 0 < B by omega)
      rw [go A B round (f + 1) (by omega) (by omega) (by omega) hA, ← gg A B]
      by_cases q2 : A % B = 0
      · rw [q2, Nat.gcd_zero_right]
        exact stop B (round + 1) f (by omega)
      · have m2 := Nat.mod_lt B (show 0 < A % B by omega)
        have half : B % (A % B) < 2 ^ k := by
          rw [Nat.pow_succ] at hB
          have d := Nat.mod_add_div B (A % B)
          have d1 : 1 ≤ B / (A % B) := (Nat.one_le_div_iff (by omega)).mpr (by omega)
          have d2 : A % B ≤ A % B * (B / (A % B)) := Nat.le_mul_of_pos_right _ d1
          omega
        rw [go B (A % B) (round + 1) f (by omega) (by omega) (by omega) (by omega), ← gg B (A % B)]
        exact eu_gcd k (A % B) (B % (A % B)) (round + 1 + 1) f (by omega) half (by omega) (by omega) (by omega)
  | 0, _, _, _, 0, _, _, _, _, hf => by omega
  | k + 1, _, _, _, 0, _, _, _, _, hf => by omega
  | k + 1, _, _, _, 1, _, _, _, _, hf => by omega
theorem v_part {U : Int64} {D : Nat} (hU : U.toInt.natAbs < 2 ^ 63) (h0 : 0 < D) (hD : D < 2 ^ 50) (w t : Int32) : f_X11_grantedPart U (lN D) w t = some (if w = 0 then U / lN (Nat.gcd U.toInt.natAbs D) else lN (D / Nat.gcd U.toInt.natAbs D), 0) := by
  obtain ⟨a1, -, -⟩ := abs_l hU
  have c1 := eu_gcd 50 U.toInt.natAbs D 0 kFU hU hD (by omega) (by omega) (by unfold kFU; omega)
  have g0 : 0 < Nat.gcd U.toInt.natAbs D := Nat.gcd_pos_of_pos_right _ h0
  have g1 : Nat.gcd U.toInt.natAbs D ≤ D := Nat.gcd_le_right _ h0
  generalize Nat.gcd U.toInt.natAbs D = G at *
  have ne : ¬ lN G = 0 := fun z => by have := (pk_lEQ (a := G) (b := 0) (by omega) (by omega)).mp z; omega
  have gp : 0 < lg_cmp (lN G) (0 : Int64) := (lg_cmp_gt _ _).mpr ((pk_lLT (a := 0) (by omega) (by omega)).mpr g0)
  rw [f_X11_grantedPart, a1, f_X11_commonMeasure, show (0 : Int32) = nI 0 from rfl, c1, bd_s, show nI 0 = (0 : Int32) from rfl, if_pos gp]
  by_cases q : w = 0
  · rw [if_pos q, if_pos q, gd_t _ ne]
  · rw [if_neg q, if_neg q, gd_t _ ne, pk_lDiv (by omega) g0 (by omega)]
/-- the numbers of Pascal -/
def bn : Nat → Nat → Nat
  | _, 0 => 1
  | 0, _ + 1 => 0
  | n + 1, k + 1 => bn n k + bn n (k + 1)
theorem bn_Cb : allB 8 (fun n => allB 9 (fun c => decide (Cb (n + 1) c = bn n c))) = true := by decide +kernel
theorem bn_all : allB 101 (fun g => allB 8 (fun n => decide (gL g (n + 1) (bn n) (n + 1) = 100 ^ n))) = true := by decide +kernel
theorem gL_all {g n : Nat} (hg : g ≤ 100) (h1 : 1 ≤ n) (hn : n ≤ 8) : gL g n (Cb n) n = 100 ^ (n - 1) := by
  have h := of_decide_eq_true (allB_at (allB_at bn_all g (by omega)) (n - 1) (by omega))
  rw [Nat.sub_add_cancel h1] at h
  rw [← h]
  refine gL_congr n (fun c hc => ?_)
  have k := of_decide_eq_true (allB_at (allB_at bn_Cb (n - 1) (by omega)) c (by omega))
  rw [Nat.sub_add_cancel h1] at k
  exact k
theorem gL_mono (g n : Nat) (f : Nat → Nat) (m : Nat) : ∀ d, gL g n f m ≤ gL g n f (m + d)
  | 0 => Nat.le_refl _
  | d + 1 => Nat.le_trans (gL_mono g n f m d) (Nat.le_add_right _ _)
theorem gL_top {g n m : Nat} (hg : g ≤ 100) (h1 : 1 ≤ n) (hn : n ≤ 8) (hm : m ≤ 8) : gL g n (Cb n) m ≤ 100 ^ (n - 1) ∧ (n ≤ m → gL g n (Cb n) m = 100 ^ (n - 1)) := by
  have top := gL_all hg h1 hn
  have big : n ≤ m → gL g n (Cb n) m = gL g n (Cb n) n := fun z => by
    have k := gL_big (g := g) (n := n) (m := m) (f := Cb n) (fun c c1 c2 => (Cb_big hn c1 (by omega)).resolve_right (by omega)) (m - n) (by omega)
    rwa [show n + (m - n) = m by omega] at k
  refine ⟨?_, fun z => (big z).trans top⟩
  by_cases q : n ≤ m
  · rw [big q, top]; exact Nat.le_refl _
  · have k := gL_mono g n (Cb n) m (n - m)
    rw [show m + (n - m) = n by omega, top] at k
    exact k
theorem v_odds {g n k : Nat} (hg : g ≤ 100) (h1 : 1 ≤ n) (hn : n ≤ 8) (hk : k ≤ 6) (t : Int32) : ∃ u d : Nat, f_X11_odds (nI n) (nI k) (0 : Int32) t 1 (nI g) = some (lN u, 0) ∧ f_X11_odds (nI n) (nI k) (1 : Int32) t 1 (nI g) = some (lN d, 0) ∧ u ≤ d ∧ d < 2 ^ 50 ∧ (n ≤ k + 1 → u = 1) := by
  obtain ⟨e1, e2⟩ := x2_upTo (ch := k) hg h1 hn (by omega)
  obtain ⟨d0, d1, -⟩ := p100_lt hn
  obtain ⟨t1, t2⟩ := gL_top (m := k + 1) hg h1 hn (by omega)
  have z1 : ¬ nI n < (1 : Int32) := nI_nlt (b := 1) h1 (by omega)
  have z2 : ¬ (8 : Int32) < nI n := nI_nlt (a := 8) hn (by omega)
  have z3 : ¬ nI k < 0 := nI_pos (by omega)
  have z4 : nI k < (8 : Int32) := nI_lt (b := 8) (by omega) (by omega)
  have pw1 : f_X2_power (100 : Int64) (nI n - (1 : Int32)) = some (lN (100 ^ (n - 1))) := by rw [nI_m1 h1, x2_power (by omega), p100]
  have ab : (lN (gL g n (Cb n) (k + 1))).toInt.natAbs = gL g n (Cb n) (k + 1) := by rw [pk_lT e2, Int.natAbs_natCast]
  have st : ∀ w : Int32, f_X11_odds (nI n) (nI k) w t 1 (nI g) = some (if w = 0 then lN (gL g n (Cb n) (k + 1)) / lN (Nat.gcd (gL g n (Cb n) (k + 1)) (100 ^ (n - 1))) else lN (100 ^ (n - 1) / Nat.gcd (gL g n (Cb n) (k + 1)) (100 ^ (n - 1))), 0) := fun w => by
    have vp := v_part (U := lN (gL g n (Cb n) (k + 1))) (D := 100 ^ (n - 1)) (lN_abs e2) d0 d1 w t
    rw [ab] at vp
    rw [f_X11_odds, if_neg (by decide), if_neg z1, if_neg z2, if_neg z3, if_pos z4, e1, bd_s, pw1, bd_s, vp, bd_s]
  have g0 : 0 < Nat.gcd (gL g n (Cb n) (k + 1)) (100 ^ (n - 1)) := Nat.gcd_pos_of_pos_right _ d0
  have g1 : Nat.gcd (gL g n (Cb n) (k + 1)) (100 ^ (n - 1)) ≤ 100 ^ (n - 1) := Nat.gcd_le_right _ d0
  refine ⟨gL g n (Cb n) (k + 1) / Nat.gcd (gL g n (Cb n) (k + 1)) (100 ^ (n - 1)), 100 ^ (n - 1) / Nat.gcd (gL g n (Cb n) (k + 1)) (100 ^ (n - 1)), ?_, ?_, Nat.div_le_div_right t1, Nat.lt_of_le_of_lt (Nat.div_le_self _ _) d1, fun z => ?_⟩
  · rw [st, if_pos rfl, pk_lDiv e2 g0 (by omega)]
  · rw [st, if_neg (by decide)]
  · rw [t2 z, Nat.gcd_self]
    exact Nat.div_self d0
theorem gM_ib2 {x : Int64} {n : Nat} (hx : ibL x 100) (hn : n ≤ 8) : ∀ k, k ≤ n → ibL (gM x n k) (k * 100 ^ (n - 1))
  | 0, _ => by unfold ibL gM; rw [show (0 : Int64).toInt = 0 from rfl]; omega
  | k + 1, hk => by
    have a := gM_ib2 hx hn k (by omega)
    have p := ibL_pw hx k (by omega)
    have l2 : 100 ^ (n - 1) ≤ 100 ^ 7 := Nat.pow_le_pow_right (by decide) (by omega)
    have c7 : (100 : Nat) ^ 7 = 100000000000000 := by decide
    have b1 : 100 ^ (n - 1 - k) ≤ 100 ^ 7 := Nat.pow_le_pow_right (by decide) (by omega)
    have q : ibL (lN (100 ^ (n - 1 - k))) (100 ^ (n - 1 - k)) := by unfold ibL; rw [pk_lT (by omega), Int.natAbs_natCast]; exact Nat.le_refl _
    have e : 100 ^ k * 100 ^ (n - 1 - k) = 100 ^ (n - 1) := by rw [← Nat.pow_add]; congr 1; omega
    have m := ibL_mul p q (by rw [e]; omega)
    rw [e] at m
    have kb : k * 100 ^ (n - 1) ≤ 8 * 100 ^ 7 := Nat.mul_le_mul (by omega) l2
    rw [gM, Nat.succ_mul]
    exact ibL_add a m (by omega)
theorem v_mean {g n : Nat} (hg : g ≤ 100) (h1 : 1 ≤ n) (hn : n ≤ 8) (t : Int32) : ∃ (x : Int64) (d : Nat), f_X11_meanSum (nI n) (0 : Int32) t 1 (nI g) = some (x, 0) ∧ f_X11_meanSum (nI n) (1 : Int32) t 1 (nI g) = some (lN d, 0) ∧ x.toInt ≤ (n * d : Nat) ∧ -((n * d : Nat) : Int) ≤ x.toInt ∧ 1 ≤ d ∧ d ≤ 100 ^ 7 := by
  obtain ⟨d0, d1, d7⟩ := p100_lt hn
  have c7 : (100 : Nat) ^ 7 = 100000000000000 := by decide
  have ub := gM_ib2 (n := n) (g2_ib hg) hn n (Nat.le_refl _)
  have z1 : ¬ nI n < (1 : Int32) := nI_nlt (b := 1) h1 (by omega)
  have z2 : nI n ≤ (8 : Int32) := nI_le (b := 8) hn (by omega)
  have pw1 : f_X2_power (100 : Int64) (nI n - (1 : Int32)) = some (lN (100 ^ (n - 1))) := by rw [nI_m1 h1, x2_power (by omega), p100]
  have e1 : f_X2_meanTotal (nI g) (nI n) = some (gM (((2 : Int32) * nI g - (100 : Int32)).toInt64) n n) := by
    rw [f_X2_meanTotal]
    exact x2_mean_5 (g := nI g) h1 hn kFU 0 (Nat.zero_le _) (by unfold kFU; omega)
  generalize gM (((2 : Int32) * nI g - (100 : Int32)).toInt64) n n = U at *
  unfold ibL at ub
  have nb : n * 100 ^ (n - 1) ≤ 8 * 100 ^ 7 := Nat.mul_le_mul hn d7
  have hU : U.toInt.natAbs < 2 ^ 63 := by omega
  have st : ∀ w : Int32, f_X11_meanSum (nI n) w t 1 (nI g) = some (if w = 0 then U / lN (Nat.gcd U.toInt.natAbs (100 ^ (n - 1))) else lN (100 ^ (n - 1) / Nat.gcd U.toInt.natAbs (100 ^ (n - 1))), 0) := fun w => by
    rw [f_X11_meanSum, if_neg (by decide), if_neg z1, if_pos z2, e1, bd_s, pw1, bd_s, v_part hU d0 d1 w t, bd_s]
  have g0 : 0 < Nat.gcd U.toInt.natAbs (100 ^ (n - 1)) := Nat.gcd_pos_of_pos_right _ d0
  have g1 : Nat.gcd U.toInt.natAbs (100 ^ (n - 1)) ≤ 100 ^ (n - 1) := Nat.gcd_le_right _ d0
  obtain ⟨y, hy⟩ := Nat.gcd_dvd_left U.toInt.natAbs (100 ^ (n - 1))
  obtain ⟨d, hd⟩ := Nat.gcd_dvd_right U.toInt.natAbs (100 ^ (n - 1))
  generalize Nat.gcd U.toInt.natAbs (100 ^ (n - 1)) = G at *
  have ed : 100 ^ (n - 1) / G = d := by rw [hd]; exact Nat.mul_div_cancel_left _ g0
  have yd : y ≤ n * d := by
    have : G * y ≤ G * (n * d) := by
      rw [← hy, Nat.mul_left_comm, ← hd]; exact ub
    exact Nat.le_of_mul_le_mul_left this g0
  have dl : d ≤ 100 ^ (n - 1) := by rw [hd]; exact Nat.le_mul_of_pos_left _ g0
  have d1' : 1 ≤ d := by
    rcases Nat.eq_zero_or_pos d with z | z
    · rw [z, Nat.mul_zero] at hd; omega
    · exact z
  have yl : y ≤ U.toInt.natAbs := by rw [hy]; exact Nat.le_mul_of_pos_left _ g0
  -- the quotient, exactly
  have ex : (U / lN G).toInt.natAbs = y := by
    rw [Int64.toInt_div, pk_lT (by omega)]
    have hq : U.toInt.tdiv (G : Int) = if 0 ≤ U.toInt then (y : Int) else -(y : Int) := by
      by_cases s : 0 ≤ U.toInt
      · rw [if_pos s]
        have : U.toInt = (G : Int) * (y : Int) := by rw [← Int.natCast_mul, ← hy]; omega
        rw [this]; exact Int.mul_tdiv_cancel_left _ (by omega)
      · rw [if_neg s]
        have : U.toInt = (G : Int) * (-(y : Int)) := by rw [Int.mul_neg, ← Int.natCast_mul, ← hy]; omega
        rw [this]; exact Int.mul_tdiv_cancel_left _ (by omega)
    rw [hq]
    by_cases s : 0 ≤ U.toInt
    · rw [if_pos s, ibL_bmod (A := y) (by omega) (by omega)]; omega
    · rw [if_neg s, ibL_bmod (A := y) (by omega) (by omega)]; omega
  refine ⟨U / lN G, d, by rw [st, if_pos rfl], by rw [st, if_neg (by decide), ed], ?_, ?_, d1', by omega⟩
  · omega
  · omega
/-! a row and its longest run by a seed -/
def sdr (s : Nat) : Nat → Nat
  | 0 => s
  | k + 1 => (75 * sdr s k + 74) % 65537
theorem sdr_le {s : Nat} (hs : s ≤ 65536) : ∀ k, sdr s k ≤ 65536
  | 0 => hs
  | k + 1 => Nat.le_of_lt_succ (Nat.mod_lt _ (by decide))
def sgw (g s : Nat) : Nat → Nat
  | 0 => 1
  | k + 1 => 2 * sgw g s k + (if g ≤ sdr s (k + 1) % 100 then 1 - sgw g s k % 2 else sgw g s k % 2)
theorem sgw_b (g s : Nat) : ∀ k, 2 ^ k ≤ sgw g s k ∧ sgw g s k < 2 ^ (k + 1)
  | 0 => ⟨Nat.le_refl _, show 1 < 2 from by decide⟩
  | k + 1 => by
    obtain ⟨a, b⟩ := sgw_b g s k
    have m := Nat.mod_lt (sgw g s k) (show 0 < 2 by decide)
    rw [sgw, Nat.pow_succ, Nat.pow_succ 2 (k + 1)]
    split <;> omega
theorem sgw_half (g s k : Nat) : sgw g s (k + 1) / 2 = sgw g s k := by
  have m := Nat.mod_lt (sgw g s k) (show 0 < 2 by decide)
  rw [sgw]
  split <;> omega
def scu (g s : Nat) : Nat → Nat
  | 0 => 1
  | k + 1 => if g ≤ sdr s (k + 1) % 100 then 1 else scu g s k + 1
def sbe (g s : Nat) : Nat → Nat
  | 0 => 1
  | k + 1 => if sbe g s k < scu g s (k + 1) then scu g s (k + 1) else sbe g s k
theorem scu_b (g s : Nat) : ∀ k, 1 ≤ scu g s k ∧ scu g s k ≤ k + 1
  | 0 => ⟨Nat.le_refl _, Nat.le_refl _⟩
  | k + 1 => by have := scu_b g s k; rw [scu]; split <;> omega
theorem sbe_b (g s : Nat) : ∀ k, 1 ≤ sbe g s k ∧ sbe g s k ≤ k + 1
  | 0 => ⟨Nat.le_refl _, Nat.le_refl _⟩
  | k + 1 => by have := sbe_b g s k; have := scu_b g s (k + 1); rw [sbe]; split <;> omega
theorem sbe_up (g s k : Nat) : sbe g s k ≤ sbe g s (k + 1) := by rw [sbe]; split <;> omega
theorem x2_row_8 {g s n : Nat} (hg : g ≤ 100) (hs : s ≤ 65536) (h1 : 1 ≤ n) (hn : n ≤ 12) : ∀ (f k : Nat), k < n → n - k ≤ f → f_X2_rowBy_8 f (nI g) (nI n) (nI (sgw g s k)) (nI (sdr s k)) (nI (k + 1)) = some (nI (sgw g s (n - 1)))
  | 0, k, hk, hf => by omega
  | f + 1, k, hk, hf => by
    rw [f_X2_rowBy_8]
    by_cases q : k + 1 = n
    · rw [if_pos (show nI n ≤ nI (k + 1) by rw [q]; exact Int32.le_refl _), show n - 1 = k by omega]
    · have b := sgw_b g s k
      have p : 2 ^ (k + 1) ≤ 2 ^ 12 := Nat.pow_le_pow_right (by decide) (by omega)
      have p12 : (2 : Nat) ^ 12 = 4096 := by decide
      have m := Nat.mod_lt (sgw g s k) (show 0 < 2 by decide)
      have dm := Nat.mod_lt (sdr s (k + 1)) (show 0 < 100 by decide)
      have dl := sdr_le hs (k + 1)
      have e2 : nI (sgw g s k) * (2 : Int32) = nI (2 * sgw g s k) := by rw [show (2 : Int32) = nI 2 from rfl, pk_mul, Nat.mul_comm]
      have e3 : f_X2_drawBehind (nI (sdr s k)) = some (nI (sdr s (k + 1))) := x2_draw (sdr_le hs k)
      have go := x2_row_8 hg hs h1 hn f (k + 1) (by omega) (by omega)
      rw [sgw] at go
      rw [if_neg (nI_ge (by omega) (by omega)), e3, bd_s, lt_q, rv_b1 (by omega), show (100 : Int32) = nI 100 from rfl, pk_rem (by omega) (by decide) (by decide), e2]
      by_cases z : g ≤ sdr s (k + 1) % 100
      · rw [if_pos (nI_le z (by omega)), f_X2_rowBy_47, lt_q, show (1 : Int32) = nI 1 from rfl, pk_sub (by omega), nI_add, nI_add]
        rw [if_pos z] at go
        exact go
      · rw [if_neg (nI_ge (by omega) (by omega)), f_X2_rowBy_47, lt_q, nI_add, nI_1]
        rw [if_neg z] at go
        exact go
theorem x2_long_11 {g s n : Nat} (hg : g ≤ 100) (hs : s ≤ 65536) (h1 : 1 ≤ n) (hn : n ≤ 200) : ∀ (f k : Nat), k < n → n - k ≤ f → f_X2_longestBy_11 f (nI g) (nI n) (nI (sbe g s k)) (nI (scu g s k)) (nI (sdr s k)) (nI (k + 1)) = some (nI (sbe g s (n - 1)))
  | 0, k, hk, hf => by omega
  | f + 1, k, hk, hf => by
    rw [f_X2_longestBy_11]
    by_cases q : k + 1 = n
    · rw [if_pos (show nI n ≤ nI (k + 1) by rw [q]; exact Int32.le_refl _), show n - 1 = k by omega]
    · have b := sbe_b g s k
      have b2 := scu_b g s k
      have dm := Nat.mod_lt (sdr s (k + 1)) (show 0 < 100 by decide)
      have dl := sdr_le hs (k + 1)
      have e3 : f_X2_drawBehind (nI (sdr s k)) = some (nI (sdr s (k + 1))) := x2_draw (sdr_le hs k)
      have go := x2_long_11 hg hs h1 hn f (k + 1) (by omega) (by omega)
      have mx : ∀ x : Nat, x ≤ 201 → (if nI (sbe g s k) < nI x then nI x else nI (sbe g s k)) = nI (if sbe g s k < x then x else sbe g s k) := fun x hx => by
        by_cases w : sbe g s k < x
        · rw [if_pos (nI_lt w (by omega)), if_pos w]
        · rw [if_neg (nI_nlt (by omega) (by omega)), if_neg w]
      rw [sbe] at go
      rw [if_neg (nI_ge (by omega) (by omega)), e3, bd_s, show (100 : Int32) = nI 100 from rfl, pk_rem (by omega) (by decide) (by decide)]
      by_cases z : g ≤ sdr s (k + 1) % 100
      · have es : scu g s (k + 1) = 1 := by rw [scu, if_pos z]
        rw [es] at go
        rw [if_pos (nI_le z (by omega)), f_X2_longestBy_41, lt_q, show (1 : Int32) = nI 1 from rfl, mx 1 (by decide), nI_add]
        exact go
      · have es : scu g s (k + 1) = scu g s k + 1 := by rw [scu, if_neg z]
        rw [es] at go
        rw [if_neg (nI_ge (by omega) (by omega)), nI_1, f_X2_longestBy_41, lt_q, mx _ (by omega), nI_1]
        exact go
theorem v_seed {s : Nat} (hs : s ≤ 65536) : f_X11_isNoSeed (nI s) = some 0 := by
  rw [f_X11_isNoSeed, if_neg (nI_pos (by omega)), if_pos (show nI s ≤ (65536 : Int32) from nI_le (b := 65536) hs (by decide))]
theorem v_grown {g s n : Nat} (hg : g ≤ 100) (hs : s ≤ 65536) (h1 : 1 ≤ n) (hn : n ≤ 12) (t : Int32) : f_X11_grown (nI s) (nI n) t 1 (nI g) = some (nI (sgw g s (n - 1)), 0) := by
  have e : f_X2_rowBy (nI g) (nI s) (nI n) = some (nI (sgw g s (n - 1))) := x2_row_8 hg hs h1 hn kFU 0 h1 (by unfold kFU; omega)
  rw [f_X11_grown, if_neg (by decide), v_seed hs, bd_s, if_pos rfl, if_neg (show ¬ nI n < (1 : Int32) from nI_nlt (b := 1) h1 (by omega)), if_pos (show nI n ≤ (12 : Int32) from nI_le (b := 12) hn (by decide)), e, bd_s, f_X11_granted, bd_s]
theorem v_longest {g s n : Nat} (hg : g ≤ 100) (hs : s ≤ 65536) (h1 : 1 ≤ n) (hn : n ≤ 200) (t : Int32) : f_X11_longestRun (nI s) (nI n) t 1 (nI g) = some (nI (sbe g s (n - 1)), 0) := by
  have e : f_X2_longestBy (nI g) (nI s) (nI n) = some (nI (sbe g s (n - 1))) := x2_long_11 hg hs h1 hn kFU 0 h1 (by unfold kFU; omega)
  rw [f_X11_longestRun, if_neg (by decide), v_seed hs, bd_s, if_pos rfl, if_neg (show ¬ nI n < (1 : Int32) from nI_nlt (b := 1) h1 (by omega)), if_pos (show nI n ≤ (200 : Int32) from nI_le (b := 200) hn (by decide)), e, bd_s, f_X11_granted, bd_s]
