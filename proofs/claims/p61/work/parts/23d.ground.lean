/-! THE GROUND AND THE KINDS (the class alone) -/
section VGR
variable {a1 a2 a3 : Int32}
theorem v_lg {n : Nat} (h1 : 2 ≤ n) (h2 : n ≤ 12) : f_X11_lacksGround (nI n) 1 = some 0 := of_decide_eq_true (allB_at (N := 13) (p := fun n => n == 0 || n == 1 || decide (f_X11_lacksGround (nI n) 1 = some 0)) (by decide +kernel) n (by omega) |> fun h => by
  simp only [Bool.or_eq_true, beq_iff_eq] at h
  rcases h with (h | h) | h
  · omega
  · omega
  · exact h)
theorem v_ground {n : Nat} (h1 : 2 ≤ n) (h2 : n ≤ 12) (t rw' st : Int32) (w : Nat → Int32) : ∃ o : Int32 × Int32 × (Nat → Int32), f_X11_ground (nI n) t rw' st 1 a1 a2 a3 w = some (gE n a1 a2 a3 (2 ^ n - 1), 0, o) := by
  obtain ⟨w', e1, e2⟩ := x5_survey (a := a1) (b := a2) (c := a3) (rw' := rw') (st := st) (show 1 ≤ n by omega) h2 w
  exact ⟨(nI (2 ^ n), nI n, w'), by simp only [f_X11_ground, v_lg h1 h2, bd_s, if_true, e1, x5_lowest h2 e2, f_X11_granted]⟩
theorem v_groundRow {n : Nat} (h1 : 2 ≤ n) (h2 : n ≤ 12) (t rw' st : Int32) (w : Nat → Int32) : ∃ o : Int32 × Int32 × (Nat → Int32), f_X11_groundRow (nI n) t rw' st 1 a1 a2 a3 w = some (nI (gR n a1 a2 a3 (2 ^ n - 1)), 0, o) := by
  obtain ⟨w', e1, e2⟩ := x5_survey (a := a1) (b := a2) (c := a3) (rw' := rw') (st := st) (show 1 ≤ n by omega) h2 w
  exact ⟨(nI (2 ^ n), nI n, w'), by simp only [f_X11_groundRow, v_lg h1 h2, bd_s, if_true, e1, x5_lowestRow h2 e2, f_X11_granted]⟩
theorem v_groundMany {n : Nat} (h1 : 2 ≤ n) (h2 : n ≤ 12) (t rw' st : Int32) (w : Nat → Int32) : ∃ o : Int32 × Int32 × (Nat → Int32), f_X11_groundMany (nI n) t rw' st 1 a1 a2 a3 w = some (nI (gC n a1 a2 a3 (2 ^ n - 1)), 0, o) := by
  obtain ⟨w', e1, e2⟩ := x5_survey (a := a1) (b := a2) (c := a3) (rw' := rw') (st := st) (show 1 ≤ n by omega) h2 w
  exact ⟨(nI (2 ^ n), nI n, w'), by simp only [f_X11_groundMany, v_lg h1 h2, bd_s, if_true, e1, x5_lowestMany h2 e2, f_X11_granted]⟩
abbrev gG (n : Nat) (a1 a2 a3 : Int32) : Int32 := gE n a1 a2 a3 (2 ^ n - 1)
theorem gG_ib {n : Nat} (h2 : n ≤ 12) (i1 : ib a1 99) (i2 : ib a2 99) (i3 : ib a3 99) : ib (gG n a1 a2 a3) 3564 := by
  unfold gG
  rw [← gR_E]
  exact (eE_ib h2 i1 i2 i3).1
theorem ratio_tr {x y w : Int} {b k j : Nat} (hb : 0 < b) (h1 : y * b ≤ x * k) (h2 : x * j ≤ w * b) : y * j ≤ w * k := by
  have hb' : (0 : Int) < (b : Int) := by omega
  refine Int.le_of_mul_le_mul_left ?_ hb'
  have e1 : (b : Int) * (y * j) = y * b * j := by rw [Int.mul_comm (b : Int), Int.mul_assoc, Int.mul_assoc, Int.mul_comm (j : Int)]
  have e2 : x * k * j = x * j * k := by rw [Int.mul_assoc, Int.mul_assoc, Int.mul_comm (k : Int)]
  have e3 : w * b * k = (b : Int) * (w * k) := by rw [Int.mul_comm w, Int.mul_assoc]
  rw [e1, ← e3]
  refine Int.le_trans (Int.mul_le_mul_of_nonneg_right h1 (by omega)) ?_
  rw [e2]
  exact Int.mul_le_mul_of_nonneg_right h2 (by omega)
theorem ratio_ts {x y w : Int} {b k j : Nat} (hb : 0 < b) (hj : 0 < j) (h1 : y * b < x * k) (h2 : x * j ≤ w * b) : y * j < w * k := by
  have hb' : (0 : Int) ≤ (b : Int) := by omega
  have hj' : (0 : Int) < (j : Int) := by omega
  refine Int.lt_of_mul_lt_mul_left (a := (b : Int)) ?_ hb'
  have e1 : (b : Int) * (y * j) = y * b * j := by rw [Int.mul_comm (b : Int), Int.mul_assoc, Int.mul_assoc, Int.mul_comm (j : Int)]
  have e2 : x * k * j = x * j * k := by rw [Int.mul_assoc, Int.mul_assoc, Int.mul_comm (k : Int)]
  have e3 : w * b * k = (b : Int) * (w * k) := by rw [Int.mul_comm w, Int.mul_assoc]
  rw [e1, ← e3]
  refine Int.lt_of_lt_of_le (Int.mul_lt_mul_of_pos_right h1 hj') ?_
  rw [e2]
  exact Int.mul_le_mul_of_nonneg_right h2 (by omega)
theorem nI_ib {n : Nat} (h : n ≤ 12) : ib (nI n) 12 := by
  show (nI n).toInt.natAbs ≤ 12
  rw [nI_toInt (by omega), Int.natAbs_natCast]; exact h
theorem ratio_le {x y : Int32} {n m : Nat} (hx : ib x 3564) (hy : ib y 3564) (hn : n ≤ 12) (hm : m ≤ 12) : x * nI n ≤ y * nI m ↔ x.toInt * n ≤ y.toInt * m := by
  rw [Int32.le_iff_toInt_le, (ib_mul hx (nI_ib hn) (by decide)).1, (ib_mul hy (nI_ib hm) (by decide)).1, nI_toInt (by omega), nI_toInt (by omega)]
theorem v_gb_23 (i1 : ib a1 99) (i2 : ib a2 99) (i3 : ib a3 99) (t : Int32) : ∀ (f k b : Nat) (rw' st : Int32) (w : Nat → Int32), 2 ≤ b → b < k → k ≤ 13 → 13 - k < f → (∀ j : Nat, 2 ≤ j → j < k → (gG b a1 a2 a3).toInt * (j : Int) ≤ (gG j a1 a2 a3).toInt * (b : Int)) → (∀ j : Nat, 2 ≤ j → j < b → (gG b a1 a2 a3).toInt * (j : Int) < (gG j a1 a2 a3).toInt * (b : Int)) →
    ∃ (b' : Nat) (o : Int32 × Int32 × (Nat → Int32)), 2 ≤ b' ∧ b' ≤ 12 ∧ f_X11_groundBest_23 f (nI b) (gG b a1 a2 a3) (nI k) t rw' st 1 a1 a2 a3 w = some (nI b', 0, o) ∧ (∀ j : Nat, 2 ≤ j → j ≤ 12 → (gG b' a1 a2 a3).toInt * (j : Int) ≤ (gG j a1 a2 a3).toInt * (b' : Int)) ∧ ∀ j : Nat, 2 ≤ j → j < b' → (gG b' a1 a2 a3).toInt * (j : Int) < (gG j a1 a2 a3).toInt * (b' : Int)
  | 0, _, _, _, _, _, _, _, _, hf, _, _ => absurd hf (Nat.not_lt_zero _)
  | f + 1, k, b, rw', st, w, h2, hb, hk, hf, hm, hq => by
    rw [f_X11_groundBest_23]
    by_cases q : k = 13
    · subst q
      rw [if_pos (show (12 : Int32) < nI 13 by decide), f_X11_granted, bd_s]
      exact ⟨b, _, h2, by omega, rfl, fun j j1 j2 => hm j j1 (by omega), hq⟩
    · obtain ⟨w', e1, e2⟩ := x5_survey (a := a1) (b := a2) (c := a3) (rw' := rw') (st := st) (show 1 ≤ k by omega) (show k ≤ 12 by omega) w
      rw [if_neg (show ¬ (12 : Int32) < nI k from nI_nlt (a := 12) (by omega) (by omega)), e1, bd_s, x5_lowest (show k ≤ 12 by omega) e2, bd_s, if_neg (show ¬ nI k = (2 : Int32) from fun z => absurd ((nI_eq (b := 2) (by omega) (by decide)).mp z) (by omega))]
      have gb := gG_ib (n := b) (show b ≤ 12 by omega) i1 i2 i3
      have gk := gG_ib (n := k) (show k ≤ 12 by omega) i1 i2 i3
      by_cases g : gG b a1 a2 a3 * nI k ≤ gG k a1 a2 a3 * nI b
      · rw [if_pos g, f_X11_groundBest_70, nI_1]
        refine v_gb_23 i1 i2 i3 t f (k + 1) b _ _ w' h2 (by omega) (by omega) (by omega) (fun j j1 j2 => ?_) hq
        by_cases z : j = k
        · rw [z]; exact (ratio_le gb gk (by omega) (by omega)).mp g
        · exact hm j j1 (by omega)
      · rw [if_neg g, f_X11_groundBest_65, f_X11_groundBest_70, nI_1]
        have g' : ¬ (gG b a1 a2 a3).toInt * (k : Int) ≤ (gG k a1 a2 a3).toInt * (b : Int) := fun z => g ((ratio_le gb gk (by omega) (by omega)).mpr z)
        refine v_gb_23 i1 i2 i3 t f (k + 1) k _ _ w' (by omega) (by omega) (by omega) (by omega) (fun j j1 j2 => ?_) (fun j j1 j2 => ratio_ts (show 0 < b by omega) (show 0 < j by omega) (Int.not_le.mp g') (hm j j1 (by omega)))
        by_cases z : j = k
        · rw [z]; exact Int.le_refl _
        · exact ratio_tr (show 0 < b by omega) (Int.le_of_lt (Int.not_le.mp g')) (hm j j1 (by omega))
theorem v_groundBest (i1 : ib a1 99) (i2 : ib a2 99) (i3 : ib a3 99) (t rw' st : Int32) (w : Nat → Int32) : ∃ (b : Nat) (o : Int32 × Int32 × (Nat → Int32)), 2 ≤ b ∧ b ≤ 12 ∧ f_X11_groundBest t rw' st 1 a1 a2 a3 w = some (nI b, 0, o) ∧ (∀ j : Nat, 2 ≤ j → j ≤ 12 → (gG b a1 a2 a3).toInt * (j : Int) ≤ (gG j a1 a2 a3).toInt * (b : Int)) ∧ ∀ j : Nat, 2 ≤ j → j < b → (gG b a1 a2 a3).toInt * (j : Int) < (gG j a1 a2 a3).toInt * (b : Int) := by
  obtain ⟨w', e1, e2⟩ := x5_survey (n := 2) (a := a1) (b := a2) (c := a3) (rw' := rw') (st := st) (by decide) (by decide) w
  obtain ⟨b, o, b1, b2, b3, b4⟩ := v_gb_23 i1 i2 i3 t 99999 3 2 (nI (2 ^ 2)) (nI 2) w' (by decide) (by decide) (by decide) (by decide) (fun j j1 j2 => by
    obtain rfl : j = 2 := by omega
    exact Int.le_refl _) (fun j j1 j2 => by omega)
  refine ⟨b, o, b1, b2, ?_, b4⟩
  rw [f_X11_groundBest, if_neg (by decide), show kFU = 99999 + 1 from rfl, f_X11_groundBest_23, if_neg (by decide), show (2 : Int32) = nI 2 from rfl, e1, bd_s, x5_lowest (n := 2) (by decide) e2, bd_s, if_pos rfl, f_X11_groundBest_65, f_X11_groundBest_70, nI_1]
  exact b3
end VGR
/-- how many of the first rows are the least of their kind -/
def kC (n x cl : Nat) : Nat → Nat
  | 0 => 0
  | r + 1 => kC n x cl r + (if (cl = 0 ∨ rRep n r = n) ∧ rLA n r x 4 = r then 1 else 0)
theorem kC_le (n x cl : Nat) : ∀ r, kC n x cl r ≤ r
  | 0 => Nat.le_refl _
  | r + 1 => by have := kC_le n x cl r; rw [kC]; split <;> omega
theorem v_kinds_48 {n x cl : Nat} (h1 : 1 ≤ n) (h2 : n ≤ 12) (hx : x < 4) (hc : cl ≤ 1) (t w : Int32) : ∀ (f r : Nat), r ≤ 2 ^ n → 2 ^ n - r < f → f_X11_kinds_48 f (nI n) (nI x) (nI cl) (nI (kC n x cl r)) (nI r) t w = some (nI (kC n x cl (2 ^ n)), 0)
  | 0, _, _, hf => absurd hf (Nat.not_lt_zero _)
  | f + 1, r, hr, hf => by
    have l := p4096 h2
    have l0 := Nat.two_pow_pos n
    rw [f_X11_kinds_48, x8_all h2, bd_s]
    by_cases q : r = 2 ^ n
    · subst q
      rw [if_pos (nI_lt (by omega) (by omega)), f_X11_granted, bd_s]
    · have hr2 : r < 2 ^ n := by omega
      rw [if_neg (nI_nlt (by omega) (by omega))]
      have go := v_kinds_48 h1 h2 hx hc t w f (r + 1) (by omega) (by omega)
      rw [kC] at go
      have out : ¬ ((cl = 0 ∨ rRep n r = n) ∧ rLA n r x 4 = r) → f_X11_kinds_98 (fun x1 x2 x3 x4 x5 y z => f_X11_kinds_48 f x1 x2 x3 x4 x5 y z) (nI n) (nI x) (nI cl) (nI r) (nI (kC n x cl r)) t w = some (nI (kC n x cl (2 ^ n)), 0) := fun e => by
        rw [f_X11_kinds_98, f_X11_kinds_99, lt_q, show (0 : Int32) = nI 0 from rfl, nI_add, nI_1]
        rw [if_neg e] at go
        exact go
      have into : (cl = 0 ∨ rRep n r = n) → f_X11_kinds_70 (fun x1 x2 x3 x4 x5 y z => f_X11_kinds_48 f x1 x2 x3 x4 x5 y z) (nI n) (nI x) (nI cl) (nI (kC n x cl r)) (nI r) t w = some (nI (kC n x cl (2 ^ n)), 0) := fun e => by
        rw [f_X11_kinds_70, f_X11_kinds_75, if_neg (by decide), x8_isLeast h1 h2 hr2 hx, bd_s]
        by_cases g : rLA n r x 4 = r
        · rw [if_pos g, if_neg (by decide), f_X11_kinds_99, lt_q, nI_1, nI_1]
          rw [if_pos ⟨e, g⟩] at go
          exact go
        · rw [if_neg g, if_pos rfl]
          exact out (fun z => g z.2)
      rcases (by omega : cl = 0 ∨ cl = 1) with rfl | rfl
      · rw [if_pos nI_0]
        exact into (Or.inl rfl)
      · rw [if_neg (show ¬ nI 1 = 0 by decide), x8_closes h1 h2 hr2, bd_s]
        by_cases e : rRep n r = n
        · rw [if_pos e, if_neg (by decide)]
          exact into (Or.inr e)
        · rw [if_neg e, if_pos rfl, f_X11_kinds_75, if_pos rfl]
          exact out (fun z => z.1.elim (by decide) e)
theorem v_kinds {n x cl : Nat} (h1 : 1 ≤ n) (h2 : n ≤ 12) (hx : x < 4) (hc : cl ≤ 1) (t : Int32) : f_X11_kinds (nI n) (nI x) (nI cl) t 1 = some (nI (kC n x cl (2 ^ n)), 0) := by
  have l := p4096 h2
  have g1 : ¬ nI n < (1 : Int32) := nI_nlt (b := 1) h1 (by omega)
  have g2 : ¬ (12 : Int32) < nI n := nI_nlt (a := 12) h2 (by decide)
  rw [f_X11_kinds, if_neg (by decide), if_neg g1, if_neg g2, v_noHow hx, bd_s, if_pos rfl]
  exact v_kinds_48 h1 h2 hx hc t 1 kFU 0 (Nat.zero_le _) (by unfold kFU; omega)
/-- what the law asks of the kinds of 2 to 6 steps -/
def kOK (n : Nat) : Bool := allB 4 (fun x => Nat.ble 1 (kC n x 0 (2 ^ n)) && Nat.ble (kC n x 0 (2 ^ n)) (kC n 0 0 (2 ^ n)) && Nat.ble (kC n 3 0 (2 ^ n)) (kC n x 0 (2 ^ n)) && Nat.ble (kC n x 1 (2 ^ n)) (kC n x 0 (2 ^ n)) && Nat.ble (2 ^ n) (kC n x 0 (2 ^ n) * 4 * n))
theorem kOK_all : allB 5 (fun k => kOK (k + 2)) = true := by decide +kernel
theorem kOK_at {n x : Nat} (h1 : 2 ≤ n) (h2 : n ≤ 6) (hx : x < 4) : 1 ≤ kC n x 0 (2 ^ n) ∧ kC n x 0 (2 ^ n) ≤ kC n 0 0 (2 ^ n) ∧ kC n 3 0 (2 ^ n) ≤ kC n x 0 (2 ^ n) ∧ kC n x 1 (2 ^ n) ≤ kC n x 0 (2 ^ n) ∧ 2 ^ n ≤ kC n x 0 (2 ^ n) * 4 * n := by
  have h := allB_at kOK_all (n - 2) (by omega)
  rw [show n - 2 + 2 = n by omega] at h
  have g := allB_at h x hx
  simp only [Bool.and_eq_true] at g
  exact ⟨Nat.le_of_ble_eq_true g.1.1.1.1, Nat.le_of_ble_eq_true g.1.1.1.2, Nat.le_of_ble_eq_true g.1.1.2, Nat.le_of_ble_eq_true g.1.2, Nat.le_of_ble_eq_true g.2⟩
