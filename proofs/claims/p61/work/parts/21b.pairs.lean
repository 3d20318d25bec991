/-! BOTH PROGRAMS' ROW HELPERS, SIDE BY SIDE -/
theorem i32_of {a : Option Int32} {v : Int32} (h : decide (a = some v) = true) : a = some v := of_decide_eq_true h
def rW (n r : Nat) : Nat := 2 ^ n - 1 - r
def rVk (r : Nat) : Nat → Nat
  | 0 => 0
  | k + 1 => 2 * rVk r k + r / 2 ^ k % 2
def rV (n r : Nat) : Nat := rVk r n
theorem rVk_lt (r : Nat) : ∀ k, rVk r k < 2 ^ k
  | 0 => Nat.one_pos
  | k + 1 => by
    have h := rVk_lt r k
    have h2 : r / 2 ^ k % 2 < 2 := Nat.mod_lt _ (by decide)
    show 2 * rVk r k + r / 2 ^ k % 2 < 2 ^ (k + 1)
    rw [Nat.pow_succ]; omega
def rL (n r a : Nat) : Nat := if a = 0 then r else if a = 1 then rW n r else if a = 2 then rW n (rV n r) else rV n r
def rH (n r : Nat) : Nat := rP (Nat.xor r (rT n r))
theorem rW_lt {n r : Nat} (hr : r < 2 ^ n) : rW n r < 2 ^ n := by unfold rW; omega
theorem rV_lt {n r : Nat} (_h1 : 1 ≤ n) (_h2 : n ≤ 12) (_hr : r < 2 ^ n) : rV n r < 2 ^ n := rVk_lt r n
theorem rV_W {n r : Nat} (h1 : 1 ≤ n) (h2 : n ≤ 12) (hr : r < 2 ^ n) : rV n (rW n r) = rW n (rV n r) := of_decide_eq_true (allR_at (p := fun n r => decide (rV n (rW n r) = rW n (rV n r))) (by decide +kernel) h1 h2 hr)
theorem rW_W {n r : Nat} (hr : r < 2 ^ n) : rW n (rW n r) = r := by unfold rW; omega
theorem rL_lt {n r a : Nat} (h1 : 1 ≤ n) (h2 : n ≤ 12) (hr : r < 2 ^ n) : rL n r a < 2 ^ n := by
  unfold rL
  split
  · exact hr
  · split
    · exact rW_lt hr
    · split
      · exact rW_lt (rV_lt h1 h2 hr)
      · exact rV_lt h1 h2 hr
theorem x8_twinned {n r : Nat} (h1 : 1 ≤ n) (h2 : n ≤ 12) (hr : r < 2 ^ n) : f_X8_twinned (nI r) (nI n) = some (nI (rW n r)) := of_decide_eq_true (allR_at (p := fun n r => decide (f_X8_twinned (nI r) (nI n) = some (nI (rW n r)))) (by decide +kernel) h1 h2 hr)
theorem rv_sh {k : Nat} (hk : k ≤ 12) : ((nI k &&& 31).toBitVec.smod 32).toNat = k :=
  of_decide_eq_true (allB_at (N := 13) (p := fun k => decide (((nI k &&& 31).toBitVec.smod 32).toNat = k)) (by decide +kernel) k (by omega))
theorem rv_bit {r k : Nat} (hr : r < 4096) (hk : k ≤ 12) : (nI r >>> (nI k &&& 31)) &&& (1 : Int32) = nI (r / 2 ^ k % 2) := by
  rw [pk_shrN (by omega) _ _ (rv_sh hk), pk_andN (Nat.lt_of_le_of_lt (Nat.div_le_self _ _) (by omega)) 1 rfl]
theorem r4096' {n r : Nat} (h2 : n ≤ 12) (hr : r < 2 ^ n) : r < 4096 := Nat.lt_of_lt_of_le hr (Nat.pow_le_pow_right (by decide) h2 : 2 ^ n ≤ 2 ^ 12)
theorem x8_fromBelow_4 {n r : Nat} (h1 : 1 ≤ n) (h2 : n ≤ 12) (hr : r < 2 ^ n) : ∀ (f k : Nat), k ≤ n → n - k < f →
    f_X8_fromBelow_4 f (nI r) (nI n) (nI (rVk r k)) (nI k) = some (nI (rW n (rV n r)))
  | 0, _, _, h => absurd h (Nat.not_lt_zero _)
  | f + 1, k, hk, hf => by
    rw [f_X8_fromBelow_4]
    by_cases q : n ≤ k
    · have e : k = n := by omega
      subst e
      rw [if_pos ((nI_leI (by omega) (by omega)).mpr q), show nI (rVk r k) = nI (rV k r) from rfl, x8_twinned h1 h2 (rV_lt h1 h2 hr), bd_some]
    · rw [if_neg (fun z => q ((nI_leI (by omega) (by omega)).mp z)), lt_eq, rv_bit (r4096' h2 hr) (by omega), show (2 : Int32) = nI 2 from rfl, pk_mul, nI_add, nI_1,
        show rVk r k * 2 + r / 2 ^ k % 2 = rVk r (k + 1) by rw [rVk, Nat.mul_comm]]
      exact x8_fromBelow_4 h1 h2 hr f (k + 1) (by omega) (by omega)
theorem x8_fromBelow {n r : Nat} (h1 : 1 ≤ n) (h2 : n ≤ 12) (hr : r < 2 ^ n) : f_X8_fromBelow (nI r) (nI n) = some (nI (rW n (rV n r))) :=
  x8_fromBelow_4 h1 h2 hr kFU 0 (Nat.zero_le _) (by unfold kFU; omega)
theorem rv_or {n k a b : Nat} (h2 : n ≤ 12) (hk : k < n) (ha : a < 2 ^ k) (hb : b < 2) : nI (a * 2 ^ (n - k)) ||| (nI b <<< (((nI n - (1 : Int32)) - nI k) &&& 31)) = nI ((2 * a + b) * 2 ^ (n - (k + 1))) :=
  of_decide_eq_true (allB_at (allB_at (allB_at (allB_at (N := 13) (p := fun n => allB n (fun k => allB (2 ^ k) (fun a => allB 2 (fun b => decide (nI (a * 2 ^ (n - k)) ||| (nI b <<< (((nI n - (1 : Int32)) - nI k) &&& 31)) = nI ((2 * a + b) * 2 ^ (n - (k + 1)))))))) (by decide +kernel) n (by omega)) k hk) a ha) b hb)
theorem x8_inWay {n r a : Nat} (h1 : 1 ≤ n) (h2 : n ≤ 12) (hr : r < 2 ^ n) (ha : a < 4) : f_X8_inWay (nI r) (nI n) (nI a) = some (nI (rL n r a)) := by
  have hW := rW_lt hr
  match a, ha with
  | 0, _ => rfl
  | 1, _ =>
    show (bd (f_X8_twinned (nI r) (nI n)) fun t2 => f_X8_inWay_15 (nI n) (nI 1) t2) = _
    rw [x8_twinned h1 h2 hr]; rfl
  | 2, _ =>
    show (bd (f_X8_fromBelow (nI r) (nI n)) fun t2 => some t2) = _
    rw [x8_fromBelow h1 h2 hr]; rfl
  | 3, _ =>
    show (bd (f_X8_twinned (nI r) (nI n)) fun t2 => f_X8_inWay_15 (nI n) (nI 3) t2) = _
    rw [x8_twinned h1 h2 hr]
    show (bd (f_X8_fromBelow (nI (rW n r)) (nI n)) fun t2 => some t2) = _
    rw [x8_fromBelow h1 h2 hW]
    show some (nI (rW n (rV n (rW n r)))) = some (nI (rV n r))
    rw [rV_W h1 h2 hr, rW_W (rV_lt h1 h2 hr)]
theorem rp_tot {c n : Nat} (hc : c ≤ 12) (h1 : 1 ≤ n) (h2 : n ≤ 12) : (((2 : Int32) * nI c - nI n) - ((2 : Int32) * nI c - nI n) / (3 : Int32) * (3 : Int32)) = 0 ↔ (c + n) % 3 = 0 := by
  have h := of_decide_eq_true (allB_at (allB_at (N := 13) (p := fun c => allB 13 (fun n => decide ((((2 : Int32) * nI c - nI n) - ((2 : Int32) * nI c - nI n) / (3 : Int32) * (3 : Int32)) = 0 ↔ (c + n) % 3 = 0))) (by decide +kernel) c (by omega)) n (by omega))
  exact h
theorem rPc_le : ∀ (k r : Nat), rPc k r ≤ k
  | 0, _ => Nat.le_refl _
  | k + 1, r => by
    have := rPc_le k (r / 2)
    have h2 : r % 2 < 2 := Nat.mod_lt _ (by decide)
    show r % 2 + rPc k (r / 2) ≤ k + 1
    omega
theorem x8_repeats {n r : Nat} (h1 : 1 ≤ n) (h2 : n ≤ 12) (hr : r < 2 ^ n) : f_X8_repeatsAfter (nI r) (nI n) = some (nI (rRep n r)) := by
  rw [f_X8_repeatsAfter, f_X8_total, j6_bitCount (r4096' h2 hr), bd_some, bd_some]
  unfold rRep
  by_cases q : (rP r + n) % 3 = 0
  · rw [if_pos ((rp_tot (rPc_le 12 r) h1 h2).mpr q), if_pos q]
  · rw [if_neg (fun z => q ((rp_tot (rPc_le 12 r) h1 h2).mp z)), if_neg q, show (3 : Int32) = nI 3 from rfl, pk_mul]
theorem x8_hexes {n r : Nat} (h1 : 1 ≤ n) (h2 : n ≤ 12) (hr : r < 2 ^ n) : f_X8_hexes (nI r) (nI n) = some (nI (rH n r)) := of_decide_eq_true (allR_at (p := fun n r => decide (f_X8_hexes (nI r) (nI n) = some (nI (rH n r)))) (by decide +kernel) h1 h2 hr)
