/-! BOTH PROGRAMS' ROW HELPERS, SIDE BY SIDE -/
theorem i32_of {a : Option Int32} {v : Int32} (h : decide (a = some v) = true) : a = some v := of_decide_eq_true h
/-- the row with every step the other way round -/
def rW (n r : Nat) : Nat := 2 ^ n - 1 - r
def rVc : Nat → Nat → Nat → Nat
  | 0, _, a => a
  | k + 1, r, a => rVc k (r / 2) (2 * a + r % 2)
/-- the row read from its end -/
def rV (n r : Nat) : Nat := rVc n r 0
/-- the row in one of the four ways -/
def rL (n r a : Nat) : Nat := if a = 0 then r else if a = 1 then rW n r else if a = 2 then rW n (rV n r) else rV n r
/-- how many layers stand hexagonally -/
def rH (n r : Nat) : Nat := rP (Nat.xor r (rT n r))
theorem rW_lt {n r : Nat} (hr : r < 2 ^ n) : rW n r < 2 ^ n := by unfold rW; omega
theorem rV_lt {n r : Nat} (h1 : 1 ≤ n) (h2 : n ≤ 12) (hr : r < 2 ^ n) : rV n r < 2 ^ n := of_decide_eq_true (allR_at (p := fun n r => decide (rV n r < 2 ^ n)) (by decide +kernel) h1 h2 hr)
theorem rV_W {n r : Nat} (h1 : 1 ≤ n) (h2 : n ≤ 12) (hr : r < 2 ^ n) : rV n (rW n r) = rW n (rV n r) := of_decide_eq_true (allR_at (p := fun n r => decide (rV n (rW n r) = rW n (rV n r))) (by decide +kernel) h1 h2 hr)
theorem rW_W {n r : Nat} (hr : r < 2 ^ n) : rW n (rW n r) = r := by unfold rW; omega
theorem rL_lt {n r a : Nat} (h1 : 1 ≤ n) (h2 : n ≤ 12) (hr : r < 2 ^ n) : rL n r a < 2 ^ n := by
  unfold rL
  split
  · exact hr
  · split
    · exact rW_lt hr
    · split
      · exact rW_lt (rV_lt h1 h2 hr)
      · exact rV_lt h1 h2 hr
theorem x8_twinned {n r : Nat} (h1 : 1 ≤ n) (h2 : n ≤ 12) (hr : r < 2 ^ n) : f_X8_twinned (nI r) (nI n) = some (nI (rW n r)) := of_decide_eq_true (allR_at (p := fun n r => decide (f_X8_twinned (nI r) (nI n) = some (nI (rW n r)))) (by decide +kernel) h1 h2 hr)
theorem x8_fromBelow {n r : Nat} (h1 : 1 ≤ n) (h2 : n ≤ 12) (hr : r < 2 ^ n) : f_X8_fromBelow (nI r) (nI n) = some (nI (rW n (rV n r))) := of_decide_eq_true (allR_at (p := fun n r => decide (f_X8_fromBelow (nI r) (nI n) = some (nI (rW n (rV n r))))) (by decide +kernel) h1 h2 hr)
theorem x13_reversed {n r : Nat} (h1 : 1 ≤ n) (h2 : n ≤ 12) (hr : r < 2 ^ n) : f_X13_reversed (nI r) (nI n) = some (nI (rV n r)) := of_decide_eq_true (allR_at (p := fun n r => decide (f_X13_reversed (nI r) (nI n) = some (nI (rV n r)))) (by decide +kernel) h1 h2 hr)
theorem x13_all {n : Nat} (h2 : n ≤ 12) : f_X13_all (nI n) = some (nI (2 ^ n - 1)) := of_decide_eq_true (allB_at (N := 13) (p := fun n => decide (f_X13_all (nI n) = some (nI (2 ^ n - 1)))) (by decide +kernel) n (by omega))
theorem x13_not {n r : Nat} (h1 : 1 ≤ n) (h2 : n ≤ 12) (hr : r < 2 ^ n) : nI (2 ^ n - 1) &&& (nI r ^^^ (-1 : Int32)) = nI (rW n r) := of_decide_eq_true (allR_at (p := fun n r => decide (nI (2 ^ n - 1) &&& (nI r ^^^ (-1 : Int32)) = nI (rW n r))) (by decide +kernel) h1 h2 hr)
theorem x8_inWay {n r a : Nat} (h1 : 1 ≤ n) (h2 : n ≤ 12) (hr : r < 2 ^ n) (ha : a < 4) : f_X8_inWay (nI r) (nI n) (nI a) = some (nI (rL n r a)) := by
  have hW := rW_lt hr
  match a, ha with
  | 0, _ => rfl
  | 1, _ =>
    show (bd (f_X8_twinned (nI r) (nI n)) fun t2 => f_X8_inWay_15 (nI n) (nI 1) t2) = _
    rw [x8_twinned h1 h2 hr]; rfl
  | 2, _ =>
    show (bd (f_X8_fromBelow (nI r) (nI n)) fun t2 => some t2) = _
    rw [x8_fromBelow h1 h2 hr]; rfl
  | 3, _ =>
    show (bd (f_X8_twinned (nI r) (nI n)) fun t2 => f_X8_inWay_15 (nI n) (nI 3) t2) = _
    rw [x8_twinned h1 h2 hr]
    show (bd (f_X8_fromBelow (nI (rW n r)) (nI n)) fun t2 => some t2) = _
    rw [x8_fromBelow h1 h2 hW]
    show some (nI (rW n (rV n (rW n r)))) = some (nI (rV n r))
    rw [rV_W h1 h2 hr, rW_W (rV_lt h1 h2 hr)]
theorem x13_looked {n r a : Nat} (h1 : 1 ≤ n) (h2 : n ≤ 12) (hr : r < 2 ^ n) (ha : a < 4) : f_X13_looked (nI r) (nI n) (nI a) = some (nI (rL n r a)) := by
  have hV := rV_lt h1 h2 hr
  match a, ha with
  | 0, _ => rfl
  | 1, _ =>
    show (bd (f_X13_all (nI n)) fun t2 => some (t2 &&& (nI r ^^^ (-1 : Int32)))) = _
    rw [x13_all h2]
    show some (nI (2 ^ n - 1) &&& (nI r ^^^ (-1 : Int32))) = _
    rw [x13_not h1 h2 hr]; rfl
  | 2, _ =>
    show (bd (f_X13_all (nI n)) fun t2 => bd (f_X13_reversed (nI r) (nI n)) fun t3 => f_X13_looked_21 (nI n) (nI 2) (t2 &&& (t3 ^^^ (-1 : Int32)))) = _
    rw [x13_all h2, x13_reversed h1 h2 hr]
    show f_X13_looked_21 (nI n) (nI 2) (nI (2 ^ n - 1) &&& (nI (rV n r) ^^^ (-1 : Int32))) = _
    rw [x13_not h1 h2 hV]; rfl
  | 3, _ =>
    show (bd (f_X13_all (nI n)) fun t2 => bd (f_X13_reversed (nI r) (nI n)) fun t3 => f_X13_looked_21 (nI n) (nI 3) (t2 &&& (t3 ^^^ (-1 : Int32)))) = _
    rw [x13_all h2, x13_reversed h1 h2 hr]
    show f_X13_looked_21 (nI n) (nI 3) (nI (2 ^ n - 1) &&& (nI (rV n r) ^^^ (-1 : Int32))) = _
    rw [x13_not h1 h2 hV]
    show (bd (f_X13_all (nI n)) fun t2 => some (t2 &&& (nI (rW n (rV n r)) ^^^ (-1 : Int32)))) = _
    rw [x13_all h2]
    show some (nI (2 ^ n - 1) &&& (nI (rW n (rV n r)) ^^^ (-1 : Int32))) = _
    rw [x13_not h1 h2 (rW_lt hV), rW_W hV]; rfl
theorem x8_hexes {n r : Nat} (h1 : 1 ≤ n) (h2 : n ≤ 12) (hr : r < 2 ^ n) : f_X8_hexes (nI r) (nI n) = some (nI (rH n r)) := of_decide_eq_true (allR_at (p := fun n r => decide (f_X8_hexes (nI r) (nI n) = some (nI (rH n r)))) (by decide +kernel) h1 h2 hr)
theorem x13_hexes {n r : Nat} (h1 : 1 ≤ n) (h2 : n ≤ 12) (hr : r < 2 ^ n) : f_X13_hexes (nI r) (nI n) = some (nI (rH n r)) := of_decide_eq_true (allR_at (p := fun n r => decide (f_X13_hexes (nI r) (nI n) = some (nI (rH n r)))) (by decide +kernel) h1 h2 hr)
theorem x8_repeats {n r : Nat} (h1 : 1 ≤ n) (h2 : n ≤ 12) (hr : r < 2 ^ n) : f_X8_repeatsAfter (nI r) (nI n) = some (nI (rRep n r)) := of_decide_eq_true (allR_at (p := fun n r => decide (f_X8_repeatsAfter (nI r) (nI n) = some (nI (rRep n r)))) (by decide +kernel) h1 h2 hr)
theorem x13_repeats {n r : Nat} (h1 : 1 ≤ n) (h2 : n ≤ 12) (hr : r < 2 ^ n) : f_X13_repeats (nI r) (nI n) = some (nI (rRep n r)) := of_decide_eq_true (allR_at (p := fun n r => decide (f_X13_repeats (nI r) (nI n) = some (nI (rRep n r)))) (by decide +kernel) h1 h2 hr)
