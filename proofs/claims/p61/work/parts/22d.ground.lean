/-! BOUNDS OF INT32s -/
def ib (x : Int32) (A : Nat) : Prop := x.toInt.natAbs ≤ A
theorem ib_bmod {z : Int} {A : Nat} (h : z.natAbs ≤ A) (hA : A < 2 ^ 31) : z.bmod (2 ^ 32) = z := by
  refine Int.bmod_eq_of_le ?_ ?_ <;> omega
theorem ib_add {x y : Int32} {A B : Nat} (hx : ib x A) (hy : ib y B) (h : A + B < 2 ^ 31) : (x + y).toInt = x.toInt + y.toInt ∧ ib (x + y) (A + B) := by
  unfold ib at *
  have e : (x + y).toInt = x.toInt + y.toInt := by rw [Int32.toInt_add]; exact ib_bmod (A := A + B) (by omega) h
  exact ⟨e, by rw [e]; omega⟩
theorem ib_sub {x y : Int32} {A B : Nat} (hx : ib x A) (hy : ib y B) (h : A + B < 2 ^ 31) : (x - y).toInt = x.toInt - y.toInt ∧ ib (x - y) (A + B) := by
  unfold ib at *
  have e : (x - y).toInt = x.toInt - y.toInt := by rw [Int32.toInt_sub]; exact ib_bmod (A := A + B) (by omega) h
  exact ⟨e, by rw [e]; omega⟩
theorem ib_neg {x : Int32} {A : Nat} (hx : ib x A) (h : A < 2 ^ 31) : (-x).toInt = -x.toInt ∧ ib (-x) A := by
  unfold ib at *
  have e : (-x).toInt = -x.toInt := by rw [Int32.toInt_neg]; exact ib_bmod (A := A) (by omega) h
  exact ⟨e, by rw [e]; omega⟩
theorem ib_mul {x y : Int32} {A B : Nat} (hx : ib x A) (hy : ib y B) (h : A * B < 2 ^ 31) : (x * y).toInt = x.toInt * y.toInt ∧ ib (x * y) (A * B) := by
  unfold ib at *
  have m : (x.toInt * y.toInt).natAbs ≤ A * B := by rw [Int.natAbs_mul]; exact Nat.mul_le_mul hx hy
  have e : (x * y).toInt = x.toInt * y.toInt := by rw [Int32.toInt_mul]; exact ib_bmod (A := A * B) m h
  exact ⟨e, by rw [e]; exact m⟩
theorem rM_le (n r d : Nat) : ∀ k, rM n r d k ≤ k
  | 0 => Nat.le_refl _
  | k + 1 => by
    have h := rM_le n r d k
    show rM n r d k + (if rS n r k = rS n r (k + d) then 0 else 1) ≤ k + 1
    split <;> omega
theorem ib_part {n M : Nat} (h2 : n ≤ 12) (hM : M ≤ n) : (nI n - (2 : Int32) * nI M).toInt = (n : Int) - 2 * M ∧ ib (nI n - (2 : Int32) * nI M) 12 := by
  have e : (nI n - (2 : Int32) * nI M).toInt = (n : Int) - 2 * M := by
    rw [show (2 : Int32) = nI 2 from rfl, pk_mul, pk_sub_toInt (by omega) (by omega)]; omega
  exact ⟨e, by unfold ib; rw [e]; omega⟩
theorem eE_ib {n r : Nat} {a b c : Int32} (h2 : n ≤ 12) (ha : ib a 99) (hb : ib b 99) (hc : ib c 99) : ib (eE n r a b c) 3564 ∧ (eE n r a b c).toInt = -(a.toInt * ((n : Int) - 2 * (rM n r 1 n : Nat))) - b.toInt * ((n : Int) - 2 * (rM n r 2 n : Nat)) - c.toInt * ((n : Int) - 2 * (rM n r 3 n : Nat)) := by
  obtain ⟨p1, q1⟩ := ib_part h2 (rM_le n r 1 n)
  obtain ⟨p2, q2⟩ := ib_part h2 (rM_le n r 2 n)
  obtain ⟨p3, q3⟩ := ib_part h2 (rM_le n r 3 n)
  obtain ⟨n1, n2⟩ := ib_neg ha (by omega)
  obtain ⟨m1, m2⟩ := ib_mul n2 q1 (by omega)
  obtain ⟨m3, m4⟩ := ib_mul hb q2 (by omega)
  obtain ⟨m5, m6⟩ := ib_mul hc q3 (by omega)
  obtain ⟨s1, s2⟩ := ib_sub m2 m4 (by omega)
  obtain ⟨s3, s4⟩ := ib_sub s2 m6 (by omega)
  refine ⟨s4, ?_⟩
  show ((((-a) * (nI n - (2 : Int32) * nI (rM n r 1 n)) - b * (nI n - (2 : Int32) * nI (rM n r 2 n))) - c * (nI n - (2 : Int32) * nI (rM n r 3 n)))).toInt = _
  rw [s3, s1, m1, m3, m5, n1, p1, p2, p3, Int.neg_mul]
theorem eE_par {n r r' : Nat} {a b c : Int32} (h2 : n ≤ 12) (ha : ib a 99) (hb : ib b 99) (hc : ib c 99) : ∃ z : Int, (eE n r a b c).toInt = (eE n r' a b c).toInt + 2 * z := by
  rw [(eE_ib (r := r) h2 ha hb hc).2, (eE_ib (r := r') h2 ha hb hc).2]
  refine ⟨a.toInt * (rM n r 1 n : Nat) + b.toInt * (rM n r 2 n : Nat) + c.toInt * (rM n r 3 n : Nat) - a.toInt * (rM n r' 1 n : Nat) - b.toInt * (rM n r' 2 n : Nat) - c.toInt * (rM n r' 3 n : Nat), ?_⟩
  grobner
/-! THE LEAST ENERGY OF ALL ROWS -/
def gE (n : Nat) (a b c : Int32) : Nat → Int32
  | 0 => eE n 0 a b c
  | k + 1 => if gE n a b c k ≤ eE n (k + 1) a b c then gE n a b c k else eE n (k + 1) a b c
def gR (n : Nat) (a b c : Int32) : Nat → Nat
  | 0 => 0
  | k + 1 => if gE n a b c k ≤ eE n (k + 1) a b c then gR n a b c k else k + 1
def gC (n : Nat) (a b c : Int32) : Nat → Nat
  | 0 => 1
  | k + 1 => if gE n a b c k ≤ eE n (k + 1) a b c then gC n a b c k + (if eE n (k + 1) a b c = gE n a b c k then 1 else 0) else 1
def gN (n : Nat) (a b c v : Int32) : Nat → Nat
  | 0 => 0
  | k + 1 => gN n a b c v k + (if eE n k a b c = v then 1 else 0)
theorem gR_le (n : Nat) (a b c : Int32) : ∀ k, gR n a b c k ≤ k
  | 0 => Nat.le_refl _
  | k + 1 => by
    have h := gR_le n a b c k
    unfold gR
    split <;> omega
theorem gR_E (n : Nat) (a b c : Int32) : ∀ k, eE n (gR n a b c k) a b c = gE n a b c k
  | 0 => rfl
  | k + 1 => by
    have h := gR_E n a b c k
    by_cases q : gE n a b c k ≤ eE n (k + 1) a b c
    · rw [gR, if_pos q, gE, if_pos q]; exact h
    · rw [gR, if_neg q, gE, if_neg q]
theorem gE_le (n : Nat) (a b c : Int32) : ∀ k j, j ≤ k → gE n a b c k ≤ eE n j a b c
  | 0, j, hj => by rw [show j = 0 by omega]; exact Int32.le_refl _
  | k + 1, j, hj => by
    unfold gE
    by_cases q : gE n a b c k ≤ eE n (k + 1) a b c
    · rw [if_pos q]
      by_cases e : j = k + 1
      · rw [e]; exact q
      · exact gE_le n a b c k j (by omega)
    · rw [if_neg q]
      by_cases e : j = k + 1
      · rw [e]; exact Int32.le_refl _
      · have h := gE_le n a b c k j (by omega)
        rw [Int32.le_iff_toInt_le] at q h ⊢
        omega
theorem gN_0 (n : Nat) (a b c v : Int32) : ∀ k, (∀ j, j < k → eE n j a b c ≠ v) → gN n a b c v k = 0
  | 0, _ => rfl
  | k + 1, h => by
    show gN n a b c v k + (if eE n k a b c = v then 1 else 0) = 0
    rw [gN_0 n a b c v k (fun j hj => h j (by omega)), if_neg (h k (by omega))]
theorem gN_C (n : Nat) (a b c : Int32) : ∀ k, gN n a b c (gE n a b c k) (k + 1) = gC n a b c k
  | 0 => by
    show 0 + (if eE n 0 a b c = eE n 0 a b c then 1 else 0) = 1
    rw [if_pos rfl]
  | k + 1 => by
    have h := gN_C n a b c k
    show gN n a b c (gE n a b c (k + 1)) (k + 1) + (if eE n (k + 1) a b c = gE n a b c (k + 1) then 1 else 0) = gC n a b c (k + 1)
    by_cases q : gE n a b c k ≤ eE n (k + 1) a b c
    · rw [show gE n a b c (k + 1) = gE n a b c k by rw [gE, if_pos q], h, gC, if_pos q]
    · rw [show gE n a b c (k + 1) = eE n (k + 1) a b c by rw [gE, if_neg q], gC, if_neg q, if_pos rfl, gN_0]
      intro j hj e
      have := gE_le n a b c k j (by omega)
      rw [e] at this
      exact q this
theorem gN_le (n : Nat) (a b c v : Int32) : ∀ k, gN n a b c v k ≤ k
  | 0 => Nat.le_refl _
  | k + 1 => by
    have h := gN_le n a b c v k
    show gN n a b c v k + (if eE n k a b c = v then 1 else 0) ≤ k + 1
    split <;> omega
theorem gC_le (n : Nat) (a b c : Int32) (k : Nat) : gC n a b c k ≤ k + 1 := by rw [← gN_C]; exact gN_le _ _ _ _ _ _
theorem p4096 {n : Nat} (h2 : n ≤ 12) : 2 ^ n ≤ 4096 := (Nat.pow_le_pow_right (by decide) h2 : 2 ^ n ≤ 2 ^ 12)
theorem x5_survey_14 {n : Nat} {a b c st : Int32} (h1 : 1 ≤ n) (h2 : n ≤ 12) : ∀ (f k : Nat) (w : Nat → Int32), k ≤ 2 ^ n → 2 ^ n - k < f → (∀ j, j < k → w j = eE n j a b c) →
    ∃ w', f_X5_survey_14 f (nI n) (nI k) a b c (nI (2 ^ n)) st w = some (nI (2 ^ n), st, w') ∧ ∀ j, j < 2 ^ n → w' j = eE n j a b c
  | 0, _, _, _, h, _ => absurd h (Nat.not_lt_zero _)
  | f + 1, k, w, hk, hf, hw => by
    have l := p4096 h2
    rw [f_X5_survey_14]
    by_cases q : 2 ^ n ≤ k
    · rw [if_pos ((nI_leI (by omega) (by omega)).mpr q)]
      exact ⟨w, rfl, fun j hj => hw j (by omega)⟩
    · rw [if_neg (fun z => q ((nI_leI (by omega) (by omega)).mp z)), x4_energyOf h1 h2 (by omega), bd_s, x11_set (by omega) (by omega), bd_s, nI_1]
      refine x5_survey_14 h1 h2 f (k + 1) _ (by omega) (by omega) (fun j hj => ?_)
      by_cases e : j = k
      · rw [e, pk_us]
      · rw [pk_un e]; exact hw j (by omega)
theorem rf_pow {n : Nat} (h2 : n ≤ 12) : (1 : Int32) <<< (nI n &&& 31) = nI (2 ^ n) := of_decide_eq_true (allB_at (N := 13) (p := fun n => decide ((1 : Int32) <<< (nI n &&& 31) = nI (2 ^ n))) (by decide +kernel) n (by omega))
theorem x5_survey {n : Nat} {a b c rw' st : Int32} (h1 : 1 ≤ n) (h2 : n ≤ 12) (w : Nat → Int32) : ∃ w', f_X5_survey (nI n) a b c rw' st w = some (nI (2 ^ n), nI n, w') ∧ ∀ j, j < 2 ^ n → w' j = eE n j a b c := by
  have l := p4096 h2
  rw [f_X5_survey, lt_q, rf_pow h2]
  exact x5_survey_14 h1 h2 kFU 0 w (Nat.zero_le _) (by unfold kFU; omega) (fun j hj => absurd hj (Nat.not_lt_zero _))
theorem x5_lowest_11 {n : Nat} {a b c : Int32} {w : Nat → Int32} (h2 : n ≤ 12) (hw : ∀ j, j < 2 ^ n → w j = eE n j a b c) : ∀ (f k : Nat), k < 2 ^ n → 2 ^ n - k ≤ f →
    f_X5_lowest_11 f (gE n a b c k) (nI (k + 1)) (nI (2 ^ n)) w = some (gE n a b c (2 ^ n - 1))
  | 0, _, h, h' => by omega
  | f + 1, k, hk, hf => by
    have l := p4096 h2
    rw [f_X5_lowest_11]
    by_cases q : 2 ^ n ≤ k + 1
    · rw [if_pos ((nI_leI (by omega) (by omega)).mpr q), show k = 2 ^ n - 1 by omega]
    · rw [if_neg (fun z => q ((nI_leI (by omega) (by omega)).mp z)), x11_at (by omega) (by omega), bd_s, lt_q, hw _ (by omega), nI_1]
      have e : (if eE n (k + 1) a b c < gE n a b c k then eE n (k + 1) a b c else gE n a b c k) = gE n a b c (k + 1) := by
        rw [gE]
        by_cases z : gE n a b c k ≤ eE n (k + 1) a b c
        · rw [if_pos z, if_neg (fun y => by rw [Int32.lt_iff_toInt_lt] at y; rw [Int32.le_iff_toInt_le] at z; omega)]
        · rw [if_neg z, if_pos (by rw [Int32.lt_iff_toInt_lt]; rw [Int32.le_iff_toInt_le] at z; omega)]
      rw [e]
      exact x5_lowest_11 h2 hw f (k + 1) (by omega) (by omega)
theorem x5_lowest {n : Nat} {a b c : Int32} {w : Nat → Int32} (h2 : n ≤ 12) (hw : ∀ j, j < 2 ^ n → w j = eE n j a b c) : f_X5_lowest (nI (2 ^ n)) w = some (gE n a b c (2 ^ n - 1)) := by
  have l := p4096 h2
  have l0 := Nat.two_pow_pos n
  rw [f_X5_lowest, show (0 : Int32) = nI 0 from rfl, x11_at (by omega) (by omega), bd_s, hw 0 l0]
  exact x5_lowest_11 h2 hw kFU 0 l0 (by unfold kFU; omega)
theorem x5_lowestRow_4 {n : Nat} {a b c : Int32} {w : Nat → Int32} (h2 : n ≤ 12) (hw : ∀ j, j < 2 ^ n → w j = eE n j a b c) : ∀ (f k : Nat), k < 2 ^ n → 2 ^ n - k ≤ f →
    f_X5_lowestRow_4 f (nI (gR n a b c k)) (nI (k + 1)) (nI (2 ^ n)) w = some (nI (gR n a b c (2 ^ n - 1)))
  | 0, _, h, h' => by omega
  | f + 1, k, hk, hf => by
    have l := p4096 h2
    have lr := gR_le n a b c k
    rw [f_X5_lowestRow_4]
    by_cases q : 2 ^ n ≤ k + 1
    · rw [if_pos ((nI_leI (by omega) (by omega)).mpr q), show k = 2 ^ n - 1 by omega]
    · have IH := x5_lowestRow_4 h2 hw f (k + 1) (by omega) (by omega)
      rw [if_neg (fun z => q ((nI_leI (by omega) (by omega)).mp z)), x11_at (by omega) (by omega), bd_s, x11_at (by omega) (by omega), bd_s, hw _ (by omega), hw _ (by omega), gR_E]
      by_cases z : gE n a b c k ≤ eE n (k + 1) a b c
      · rw [if_pos z, f_X5_lowestRow_33, nI_1]
        rw [gR, if_pos z] at IH; exact IH
      · rw [if_neg z, f_X5_lowestRow_33, nI_1]
        rw [gR, if_neg z] at IH; exact IH
theorem x5_lowestRow {n : Nat} {a b c : Int32} {w : Nat → Int32} (h2 : n ≤ 12) (hw : ∀ j, j < 2 ^ n → w j = eE n j a b c) : f_X5_lowestRow (nI (2 ^ n)) w = some (nI (gR n a b c (2 ^ n - 1))) := by
  have l := p4096 h2
  exact x5_lowestRow_4 h2 hw kFU 0 (Nat.two_pow_pos n) (by unfold kFU; omega)
theorem x5_lowestMany_9 {n : Nat} {a b c v : Int32} {w : Nat → Int32} (h2 : n ≤ 12) (hw : ∀ j, j < 2 ^ n → w j = eE n j a b c) : ∀ (f k : Nat), k ≤ 2 ^ n → 2 ^ n - k < f →
    f_X5_lowestMany_9 f v (nI (gN n a b c v k)) (nI k) (nI (2 ^ n)) w = some (nI (gN n a b c v (2 ^ n)))
  | 0, _, _, h => absurd h (Nat.not_lt_zero _)
  | f + 1, k, hk, hf => by
    have l := p4096 h2
    rw [f_X5_lowestMany_9]
    by_cases q : 2 ^ n ≤ k
    · rw [if_pos ((nI_leI (by omega) (by omega)).mpr q), show k = 2 ^ n by omega]
    · have IH := x5_lowestMany_9 (v := v) h2 hw f (k + 1) (by omega) (by omega)
      rw [if_neg (fun z => q ((nI_leI (by omega) (by omega)).mp z)), x11_at (by omega) (by omega), bd_s, hw _ (by omega)]
      by_cases z : eE n k a b c = v
      · rw [if_pos z, f_X5_lowestMany_35, lt_q, nI_1, nI_1]
        rw [gN, if_pos z] at IH; exact IH
      · rw [if_neg z, f_X5_lowestMany_35, lt_q, show nI (gN n a b c v k) + (0 : Int32) = nI (gN n a b c v k + 0) from nI_add _ 0, nI_1]
        rw [gN, if_neg z] at IH; exact IH
theorem x5_lowestMany {n : Nat} {a b c : Int32} {w : Nat → Int32} (h2 : n ≤ 12) (hw : ∀ j, j < 2 ^ n → w j = eE n j a b c) : f_X5_lowestMany (nI (2 ^ n)) w = some (nI (gC n a b c (2 ^ n - 1))) := by
  have l := p4096 h2
  have l0 := Nat.two_pow_pos n
  have h := gN_C n a b c (2 ^ n - 1)
  rw [Nat.sub_add_cancel l0] at h
  rw [f_X5_lowestMany, x5_lowest h2 hw, bd_s, ← h]
  exact x5_lowestMany_9 h2 hw kFU 0 (Nat.zero_le _) (by unfold kFU; omega)
theorem x11_gTr : f_X11_groundTrouble 1 = some 2 := rfl
theorem i2 : ((2 : Int32) ≤ 0) = False := by decide
theorem i0 : ((0 : Int32) ≤ 0) = True := by decide
