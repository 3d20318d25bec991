/-! THE TEXT: TOKENS OF BOTH PROGRAMS -/
/-- byte i of a tape, as a number -/
def bN (tb : Nat → Int32) (i : Nat) : Nat := (tb i).toBitVec.toNat % 256
theorem bN_lt (tb : Nat → Int32) (i : Nat) : bN tb i < 256 := Nat.mod_lt _ (by decide)
theorem bN_and (tb : Nat → Int32) (i : Nat) : (tb i) &&& (255 : Int32) = nI (bN tb i) := pk_and (tb i) 8 rfl
/-- what the class finds at a place that may be 500 -/
def bC (tb : Nat → Int32) (i : Nat) : Nat := if i < 500 then bN tb i else 0
theorem x10_byteAt {tb : Nat → Int32} {i : Nat} (hi : i ≤ 500) : f_X10_byteAt (nI i) tb = some (nI (bC tb i)) := by
  unfold bC
  by_cases q : i < 500
  · rw [f_X10_byteAt, if_neg (nI_pos (by omega)), if_neg (show ¬ (500 : Int32) ≤ nI i from nI_ge (b := 500) q (by omega)), gd_t _ (nI_in q (by omega)), nI_clamp (by omega), bN_and, if_pos q]
  · rw [f_X10_byteAt, if_neg (nI_pos (by omega)), if_pos (show (500 : Int32) ≤ nI i from nI_le (a := 500) (by omega) (by omega)), if_neg q]; rfl
theorem x13_byteAt {tb mt : Nat → Int32} {n i : Nat} (hn : n ≤ 500) (h : ∀ i, i < n → tb i = mt i) (hi : i ≤ n) : f_X13_byteAt (nI i) (nI n) mt = some (if i < n then nI (bN tb i) else -1) := by
  by_cases q : i < n
  · rw [f_X13_byteAt, if_neg (nI_ge q (by omega)), gd_t _ (nI_in (by omega) (by omega)), nI_clamp (by omega), ← h i q, bN_and, if_pos q]
  · rw [f_X13_byteAt, if_pos (nI_le (by omega) (by omega)), if_neg q]
def isL (b : Nat) : Bool := Nat.ble 97 b && Nat.ble b 122
def isD (b : Nat) : Bool := Nat.ble 48 b && Nat.ble b 57
theorem x7_isLetter {b : Nat} (hb : b < 256) : f_X7_isLetter (nI b) = some (if isL b then 1 else 0) := of_decide_eq_true (allB_at (N := 256) (p := fun b => decide (f_X7_isLetter (nI b) = some (if isL b then 1 else 0))) (by decide +kernel) b hb)
theorem x7_isDigit {b : Nat} (hb : b < 256) : f_X7_isDigit (nI b) = some (if isD b then 1 else 0) := of_decide_eq_true (allB_at (N := 256) (p := fun b => decide (f_X7_isDigit (nI b) = some (if isD b then 1 else 0))) (by decide +kernel) b hb)
theorem x13_isLetter {b : Nat} (hb : b < 256) : f_X13_isLetter (nI b) = some (if isL b then 1 else 0) := of_decide_eq_true (allB_at (N := 256) (p := fun b => decide (f_X13_isLetter (nI b) = some (if isL b then 1 else 0))) (by decide +kernel) b hb)
theorem x13_isDigit {b : Nat} (hb : b < 256) : f_X13_isDigit (nI b) = some (if isD b then 1 else 0) := of_decide_eq_true (allB_at (N := 256) (p := fun b => decide (f_X13_isDigit (nI b) = some (if isD b then 1 else 0))) (by decide +kernel) b hb)
theorem isL_le {b : Nat} (h : isL b = true) : 97 ≤ b ∧ b ≤ 122 := by
  simp only [isL, Bool.and_eq_true] at h
  exact ⟨Nat.le_of_ble_eq_true h.1, Nat.le_of_ble_eq_true h.2⟩
theorem isD_le {b : Nat} (h : isD b = true) : 48 ≤ b ∧ b ≤ 57 := by
  simp only [isD, Bool.and_eq_true] at h
  exact ⟨Nat.le_of_ble_eq_true h.1, Nat.le_of_ble_eq_true h.2⟩
theorem nI_neg1 {b : Nat} (hb : b < 2 ^ 31) : ¬ nI b = (-1 : Int32) := fun w => by
  have := nI_pos hb
  rw [w] at this
  exact this (by decide)
theorem nb117 {b : Nat} (hb : b < 256) (u : ¬ b = 117) : ¬ nI b = (117 : Int32) := fun z => u ((nI_eq (b := 117) (by omega) (by omega)).mp z)
theorem nb100 {b : Nat} (hb : b < 256) (u : ¬ b = 100) : ¬ nI b = (100 : Int32) := fun z => u ((nI_eq (b := 100) (by omega) (by omega)).mp z)
theorem yb117 {b : Nat} (u : b = 117) : nI b = (117 : Int32) := by rw [u]; rfl
theorem yb100 {b : Nat} (u : b = 100) : nI b = (100 : Int32) := by rw [u]; rfl
/-! words -/
/-- the first k letters from p on, as a number; as a row; whether they are one -/
def Wd (tb : Nat → Int32) (p : Nat) : Nat → Int64
  | 0 => 0
  | k + 1 => Wd tb p k * (32 : Int64) + ((nI (bN tb (p + k)) - (97 : Int32)) + (1 : Int32)).toInt64
def Rb (tb : Nat → Int32) (p : Nat) : Nat → Nat
  | 0 => 0
  | k + 1 => 2 * Rb tb p k + (if bN tb (p + k) = 117 then 1 else 0)
def Rk (tb : Nat → Int32) (p : Nat) : Nat → Nat
  | 0 => 1
  | k + 1 => if bN tb (p + k) = 117 ∨ bN tb (p + k) = 100 then Rk tb p k else 0
theorem Rb_lt (tb : Nat → Int32) (p : Nat) : ∀ k, Rb tb p k < 2 ^ k
  | 0 => Nat.one_pos
  | k + 1 => by
    have h := Rb_lt tb p k
    show 2 * Rb tb p k + (if bN tb (p + k) = 117 then 1 else 0) < 2 ^ (k + 1)
    rw [Nat.pow_succ]
    split <;> omega
theorem Rk_01 (tb : Nat → Int32) (p : Nat) : ∀ k, Rk tb p k = 0 ∨ Rk tb p k = 1
  | 0 => Or.inr rfl
  | k + 1 => by
    rw [Rk]
    split
    · exact Rk_01 tb p k
    · exact Or.inl rfl
theorem x7_row_23 {tb : Nat → Int32} {p L : Nat} (hL : L ≤ 12) (hp : p + L ≤ 500) : ∀ (f k : Nat), k ≤ L → L - k < f → Rk tb p k = 1 → f_X7_rowOfWord_23 f (nI (Rb tb p k)) (nI k) (nI L) (nI p) tb = some (if Rk tb p L = 1 then nI (Rb tb p L) else -1)
  | 0, _, _, h, _ => absurd h (Nat.not_lt_zero _)
  | f + 1, k, hk, hf, h1 => by
    rw [f_X7_rowOfWord_23]
    by_cases q : L ≤ k
    · have e : k = L := by omega
      subst e
      rw [if_pos (nI_le (Nat.le_refl _) (by omega)), if_pos h1]
    · have bl := bN_lt tb (p + k)
      have past : ∀ d, Rk tb p (k + 1) = 0 → Rk tb p (k + 1 + d) = 0 := fun d h => by
        induction d with
        | zero => exact h
        | succ d ih =>
          rw [show k + 1 + (d + 1) = (k + 1 + d) + 1 by omega, Rk]
          split
          · exact ih
          · rfl
      rw [if_neg (nI_ge (by omega) (by omega)), nI_add, x10_byteAt (by omega), bd_s, show bC tb (p + k) = bN tb (p + k) from if_pos (by omega)]
      by_cases u : bN tb (p + k) = 117
      · have IH := x7_row_23 hL hp f (k + 1) (by omega) (by omega) (by rw [Rk, if_pos (Or.inl u)]; exact h1)
        rw [Rb, if_pos u] at IH
        rw [if_pos (yb117 u), f_X7_rowOfWord_59, if_pos (yb117 u), f_X7_rowOfWord_73, lt_q, show (2 : Int32) = nI 2 from rfl, pk_mul, nI_1, nI_1, Nat.mul_comm (Rb tb p k) 2]
        exact IH
      · have n117 : ¬ nI (bN tb (p + k)) = (117 : Int32) := fun z => u ((nI_eq (b := 117) (by omega) (by omega)).mp z)
        rw [if_neg n117]
        by_cases d : bN tb (p + k) = 100
        · have IH := x7_row_23 hL hp f (k + 1) (by omega) (by omega) (by rw [Rk, if_pos (Or.inr d)]; exact h1)
          rw [Rb, if_neg u] at IH
          rw [if_pos (show nI (bN tb (p + k)) = (100 : Int32) by rw [d]; rfl), f_X7_rowOfWord_59, if_neg n117, f_X7_rowOfWord_73, lt_q, show (2 : Int32) = nI 2 from rfl, pk_mul, show ∀ z : Nat, nI z + (0 : Int32) = nI (z + 0) from fun z => nI_add z 0, nI_1, Nat.mul_comm (Rb tb p k) 2]
          exact IH
        · have r0 : Rk tb p (k + 1) = 0 := by rw [Rk, if_neg (fun z => z.elim u d)]
          have e := past (L - (k + 1)) r0
          rw [show k + 1 + (L - (k + 1)) = L by omega] at e
          rw [if_neg (nb100 bl d), if_neg (by omega)]
theorem x7_row {tb : Nat → Int32} {p L : Nat} (h2 : 2 ≤ L) (hL : L ≤ 12) (hp : p + L ≤ 500) : f_X7_rowOfWord (nI L) (nI p) tb = some (if Rk tb p L = 1 then nI (Rb tb p L) else -1) := by
  rw [f_X7_rowOfWord, if_neg (show ¬ nI L < (2 : Int32) from nI_nlt (b := 2) h2 (by omega)), if_pos (show nI L ≤ (12 : Int32) from nI_le (b := 12) hL (by omega))]
  exact x7_row_23 hL hp kFU 0 (Nat.zero_le _) (by unfold kFU; omega) rfl
theorem wordOr {P Q : Prop} (a : P ∨ Q) : P ∨ Q := a
theorem word_l {tb mt : Nat → Int32} {n p : Nat} {kd so : Int32} (hn : n ≤ 500) (h : ∀ i, i < n → tb i = mt i) : ∀ (f k : Nat) (mw : Int64) (mb : Int32), p + k ≤ n → n - (p + k) < f → (k ≤ 12 → mw = Wd tb p k ∧ mb = nI (Rb tb p k)) →
    ∃ (L : Nat) (mw' : Int64) (mb' : Int32), k ≤ L ∧ p + L ≤ n ∧ (L ≤ 12 → mw' = Wd tb p L ∧ mb' = nI (Rb tb p L)) ∧ (k < n - p → isL (bN tb (p + k)) = true → k + 1 ≤ L) ∧
      f_X7_advanceWord_12 f (nI (bC tb (p + k))) (nI n) kd (nI (p + k)) (nI p) (Wd tb p k) tb = some (if 12 < L then 4 else 1, nI (p + L), Wd tb p L) ∧
      f_X13_wordGoesBy_20 f (nI (Rk tb p k)) (nI k) mb (nI n) so (nI (p + k)) mw mt = some (nI (Rk tb p L), nI L, mb', if 12 < L then so else 2, nI (p + L), mw')
  | 0, _, _, _, _, h, _ => absurd h (Nat.not_lt_zero _)
  | f + 1, k, mw, mb, hk, hf, hm => by
    have bl := bN_lt tb (p + k)
    have stopC : f_X7_advanceWord_75 (nI n) kd (nI (p + k)) (nI p) (Wd tb p k) tb = some (if 12 < k then 4 else 1, nI (p + k), Wd tb p k) := by
      rw [f_X7_advanceWord_75, pk_sub (by omega), show p + k - p = k by omega]
      by_cases q : 12 < k
      · rw [if_pos (show (12 : Int32) < nI k from nI_lt (a := 12) q (by omega)), if_pos q, f_X7_advanceWord_95]
      · rw [if_neg (show ¬ (12 : Int32) < nI k from nI_nlt (a := 12) (by omega) (by omega)), if_neg q, f_X7_advanceWord_95]
    have stopM : (if (12 : Int32) < nI k then some (nI (Rk tb p k), nI k, mb, so, nI (p + k), mw) else some (nI (Rk tb p k), nI k, mb, 2, nI (p + k), mw)) = some (nI (Rk tb p k), nI k, mb, if 12 < k then so else 2, nI (p + k), mw) := by
      by_cases q : 12 < k
      · rw [if_pos (show (12 : Int32) < nI k from nI_lt (a := 12) q (by omega)), if_pos q]
      · rw [if_neg (show ¬ (12 : Int32) < nI k from nI_nlt (a := 12) (by omega) (by omega)), if_neg q]
    rw [f_X7_advanceWord_12, f_X13_wordGoesBy_20, x13_byteAt hn h hk, bd_s]
    by_cases q : n ≤ p + k
    · rw [if_pos (nI_le q (by omega)), if_neg (show ¬ p + k < n by omega), show f_X13_isLetter (-1) = some 0 from rfl, bd_s, if_pos rfl, stopC, stopM]
      exact ⟨k, mw, mb, Nat.le_refl _, hk, hm, fun z => by omega, rfl, rfl⟩
    · have lt : p + k < n := by omega
      have cb : bC tb (p + k) = bN tb (p + k) := if_pos (by omega)
      rw [if_neg (nI_ge lt (by omega)), if_pos lt, cb, x7_isLetter bl, x13_isLetter bl, bd_s, bd_s]
      by_cases l : isL (bN tb (p + k)) = true
      · have lb := isL_le l
        rw [if_pos l, if_neg (by decide), if_neg (by decide), bd_s, lt_q, lt_q, nI_1, x10_byteAt (by omega), bd_s]
        rw [show p + k + 1 = p + (k + 1) by omega]
        have go : ∀ (mw2 : Int64) (mb2 rk2 : Int32), rk2 = nI (Rk tb p (k + 1)) → (k + 1 ≤ 12 → mw2 = Wd tb p (k + 1) ∧ mb2 = nI (Rb tb p (k + 1))) → ∃ (L : Nat) (mw' : Int64) (mb' : Int32), k ≤ L ∧ p + L ≤ n ∧ (L ≤ 12 → mw' = Wd tb p L ∧ mb' = nI (Rb tb p L)) ∧ (k < n - p → isL (bN tb (p + k)) = true → k + 1 ≤ L) ∧
            f_X7_advanceWord_12 f (nI (bC tb (p + (k + 1)))) (nI n) kd (nI (p + (k + 1))) (nI p) (Wd tb p (k + 1)) tb = some (if 12 < L then 4 else 1, nI (p + L), Wd tb p L) ∧
            f_X13_wordGoesBy_20 f rk2 (nI (k + 1)) mb2 (nI n) so (nI (p + (k + 1))) mw2 mt = some (nI (Rk tb p L), nI L, mb', if 12 < L then so else 2, nI (p + L), mw') := fun mw2 mb2 rk2 hr h2 => by
          subst hr
          obtain ⟨L, mw', mb', a1, a2, a3, -, a5, a6⟩ := word_l (kd := kd) (so := so) hn h f (k + 1) mw2 mb2 (by omega) (by omega) h2
          exact ⟨L, mw', mb', by omega, a2, a3, fun _ _ => a1, a5, a6⟩
        have w94 : ∀ (mw2 : Int64) (mb2 : Int32), f_X13_wordGoesBy_94 (fun a b c d e g h i => f_X13_wordGoesBy_20 f a b c d e g h i) (nI (bN tb (p + k))) (nI (Rk tb p k)) (nI k) mb2 (nI n) so (nI (p + k)) mw2 mt = f_X13_wordGoesBy_20 f (nI (Rk tb p (k + 1))) (nI (k + 1)) mb2 (nI n) so (nI (p + (k + 1))) mw2 mt := fun mw2 mb2 => by
          rw [f_X13_wordGoesBy_94]
          by_cases u : bN tb (p + k) = 117
          · rw [if_pos (show nI (bN tb (p + k)) = (117 : Int32) by rw [u]; rfl), f_X13_wordGoesBy_111, lt_q, lt_q, nI_1, nI_1, Rk, if_pos (Or.inl u), show p + k + 1 = p + (k + 1) by omega]
          · rw [if_neg (nb117 bl u)]
            by_cases d : bN tb (p + k) = 100
            · rw [if_pos (show nI (bN tb (p + k)) = (100 : Int32) by rw [d]; rfl), f_X13_wordGoesBy_111, lt_q, lt_q, nI_1, nI_1, Rk, if_pos (Or.inr d), show p + k + 1 = p + (k + 1) by omega]
            · rw [if_neg (nb100 bl d), f_X13_wordGoesBy_111, lt_q, lt_q, nI_1, nI_1, Rk, if_neg (fun z => z.elim u d), show p + k + 1 = p + (k + 1) by omega]; rfl
        by_cases q12 : 12 ≤ k
        · rw [if_pos (show (12 : Int32) ≤ nI k from nI_le (a := 12) q12 (by omega)), w94]
          exact go mw mb _ rfl (fun z => by omega)
        · obtain ⟨m1, m2⟩ := hm (by omega)
          have rb := Rb_lt tb p k
          rw [if_neg (show ¬ (12 : Int32) ≤ nI k from nI_ge (b := 12) (by omega) (by omega)), lt_q, m1, m2, Int64.mul_comm (32 : Int64) (Wd tb p k)]
          by_cases u : bN tb (p + k) = 117
          · rw [if_pos (show nI (bN tb (p + k)) = (117 : Int32) by rw [u]; rfl), f_X13_wordGoesBy_90, lt_q, w94]
            refine go _ _ _ rfl (fun _ => ⟨rfl, ?_⟩)
            rw [Rb, if_pos u, show (2 : Int32) = nI 2 from rfl, pk_mul, nI_1]
          · rw [if_neg (nb117 bl u), f_X13_wordGoesBy_90, lt_q, w94]
            refine go _ _ _ rfl (fun _ => ⟨rfl, ?_⟩)
            rw [Rb, if_neg u, show (2 : Int32) = nI 2 from rfl, pk_mul, show ∀ z : Nat, nI z + (0 : Int32) = nI (z + 0) from fun z => nI_add z 0]
      · rw [if_neg l, if_pos rfl, if_pos rfl, stopC, stopM]
        exact ⟨k, mw, mb, Nat.le_refl _, hk, hm, fun _ z => absurd z l, rfl, rfl⟩
/-! wholes -/
def Vd (tb : Nat → Int32) (p : Nat) : Nat → Nat
  | 0 => 0
  | k + 1 => 10 * Vd tb p k + (bN tb (p + k) - 48)
theorem Vd_lt {tb : Nat → Int32} {p : Nat} : ∀ k, (∀ j, j < k → isD (bN tb (p + j)) = true) → Vd tb p k < 10 ^ k
  | 0, _ => Nat.one_pos
  | k + 1, h => by
    have a := Vd_lt k (fun j hj => h j (by omega))
    have b := isD_le (h k (by omega))
    show 10 * Vd tb p k + (bN tb (p + k) - 48) < 10 ^ (k + 1)
    rw [Nat.pow_succ]
    omega
theorem whole_l {tb mt : Nat → Int32} {n p : Nat} {kd r1 r2 r3 r4 so : Int32} {mw : Int64} (hn : n ≤ 500) (h : ∀ i, i < n → tb i = mt i) : ∀ (f k : Nat) (cv mv : Int32), p + k ≤ n → n - (p + k) < f → (∀ j, j < k → isD (bN tb (p + j)) = true) → (k ≤ 3 → cv = nI (Vd tb p k) ∧ mv = nI (Vd tb p k)) →
    ∃ (L : Nat) (cv' mv' : Int32), k ≤ L ∧ p + L ≤ n ∧ (∀ j, j < L → isD (bN tb (p + j)) = true) ∧ (L ≤ 3 → cv' = nI (Vd tb p L) ∧ mv' = nI (Vd tb p L)) ∧ (k < n - p → isD (bN tb (p + k)) = true → k + 1 ≤ L) ∧
      f_X7_advanceWhole_12 f (nI (bC tb (p + k))) (nI n) kd (nI (p + k)) (nI p) cv tb = some (if 3 < L then 4 else 2, nI (p + L), cv') ∧
      f_X13_goesOn_98 f (nI k) r1 r2 mv r3 r4 (nI n) so (nI (p + k)) mw mt = some (r1, r2, mv', r3, r4, if 3 < L then so else 3, nI (p + L), mw)
  | 0, _, _, _, _, h, _, _ => absurd h (Nat.not_lt_zero _)
  | f + 1, k, cv, mv, hk, hf, hd, hm => by
    have bl := bN_lt tb (p + k)
    have stopC : f_X7_advanceWhole_71 (nI n) kd (nI (p + k)) (nI p) cv tb = some (if 3 < k then 4 else 2, nI (p + k), cv) := by
      rw [f_X7_advanceWhole_71, pk_sub (by omega), show p + k - p = k by omega]
      by_cases q : 3 < k
      · rw [if_pos (show (3 : Int32) < nI k from nI_lt (a := 3) q (by omega)), if_pos q, f_X7_advanceWhole_90]
      · rw [if_neg (show ¬ (3 : Int32) < nI k from nI_nlt (a := 3) (by omega) (by omega)), if_neg q, f_X7_advanceWhole_90]
    have stopM : (if (3 : Int32) < nI k then some (r1, r2, mv, r3, r4, so, nI (p + k), mw) else some (r1, r2, mv, r3, r4, 3, nI (p + k), mw)) = some (r1, r2, mv, r3, r4, if 3 < k then so else 3, nI (p + k), mw) := by
      by_cases q : 3 < k
      · rw [if_pos (show (3 : Int32) < nI k from nI_lt (a := 3) q (by omega)), if_pos q]
      · rw [if_neg (show ¬ (3 : Int32) < nI k from nI_nlt (a := 3) (by omega) (by omega)), if_neg q]
    rw [f_X7_advanceWhole_12, f_X13_goesOn_98, x13_byteAt hn h hk, bd_s]
    by_cases q : n ≤ p + k
    · rw [if_pos (nI_le q (by omega)), if_neg (show ¬ p + k < n by omega), show f_X13_isDigit (-1) = some 0 from rfl, bd_s, if_pos rfl, stopC, stopM]
      exact ⟨k, cv, mv, Nat.le_refl _, hk, hd, hm, fun z => by omega, rfl, rfl⟩
    · have lt : p + k < n := by omega
      have cb : bC tb (p + k) = bN tb (p + k) := if_pos (by omega)
      rw [if_neg (nI_ge lt (by omega)), if_pos lt, cb, x7_isDigit bl, x13_isDigit bl, bd_s, bd_s]
      by_cases l : isD (bN tb (p + k)) = true
      · have lb := isD_le l
        have hd' : ∀ j, j < k + 1 → isD (bN tb (p + j)) = true := fun j hj => by
          by_cases z : j = k
          · rw [z]; exact l
          · exact hd j (by omega)
        rw [if_pos l, if_neg (by decide), if_neg (by decide), lt_q, lt_q, nI_1, x10_byteAt (by omega), bd_s]
        rw [show p + k + 1 = p + (k + 1) by omega]
        have go : ∀ (cv2 mv2 : Int32), (k + 1 ≤ 3 → cv2 = nI (Vd tb p (k + 1)) ∧ mv2 = nI (Vd tb p (k + 1))) → ∃ (L : Nat) (cv' mv' : Int32), k ≤ L ∧ p + L ≤ n ∧ (∀ j, j < L → isD (bN tb (p + j)) = true) ∧ (L ≤ 3 → cv' = nI (Vd tb p L) ∧ mv' = nI (Vd tb p L)) ∧ (k < n - p → isD (bN tb (p + k)) = true → k + 1 ≤ L) ∧
            f_X7_advanceWhole_12 f (nI (bC tb (p + (k + 1)))) (nI n) kd (nI (p + (k + 1))) (nI p) cv2 tb = some (if 3 < L then 4 else 2, nI (p + L), cv') ∧
            f_X13_goesOn_140 (fun a b c d e g h i j l m => f_X13_goesOn_98 f a b c d e g h i j l m) (nI k) r1 r2 mv2 r3 r4 (nI n) so (nI (p + k)) mw mt = some (r1, r2, mv', r3, r4, if 3 < L then so else 3, nI (p + L), mw) := fun cv2 mv2 h2 => by
          obtain ⟨L, cv', mv', a1, a2, a3, a4, -, a5, a6⟩ := whole_l (kd := kd) (r1 := r1) (r2 := r2) (r3 := r3) (r4 := r4) (so := so) (mw := mw) hn h f (k + 1) cv2 mv2 (by omega) (by omega) hd' h2
          refine ⟨L, cv', mv', by omega, a2, a3, a4, fun _ _ => a1, a5, ?_⟩
          rw [f_X13_goesOn_140, lt_q, nI_1, nI_1, show p + k + 1 = p + (k + 1) by omega]
          exact a6
        by_cases q3 : 3 ≤ k
        · rw [if_pos (show (3 : Int32) ≤ nI k from nI_le (a := 3) q3 (by omega))]
          exact go _ _ (fun z => by omega)
        · obtain ⟨m1, m2⟩ := hm (by omega)
          rw [if_neg (show ¬ (3 : Int32) ≤ nI k from nI_ge (b := 3) (by omega) (by omega)), bd_s, lt_q]
          refine go _ _ (fun _ => ?_)
          rw [m1, m2, show (10 : Int32) = nI 10 from rfl, show (48 : Int32) = nI 48 from rfl, pk_mul, pk_mul, pk_sub (by omega), nI_add, nI_add, pk_sub (by omega)]
          exact ⟨congrArg nI (by rw [Vd]; omega), congrArg nI (by rw [Vd]; omega)⟩
      · rw [if_neg l, if_pos rfl, if_pos rfl, stopC, stopM]
        exact ⟨k, cv, mv, Nat.le_refl _, hk, hd, hm, fun _ z => absurd z l, rfl, rfl⟩
