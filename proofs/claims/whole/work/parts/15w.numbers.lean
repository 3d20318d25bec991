/-! NUMBERS AND THE HEAD -/
theorem q_readWhole {tb mt : Nat → Int32} {n B : Nat} (hn : n ≤ 500) (h : ∀ i, i < n → tb i = mt i) {C : Int32 × Int32 × Int32 × Int32 × Int32 × Int64} {M : Int32 × Int32 × Int32 × Int32 × Int32 × Int32 × Int32 × Int64} {q : Nat} (k : TK tb B n C M q) (lo hi : Nat) (P Q : Int32) (hP : P = nI lo) (hQ : Q = nI hi) (hl : lo ≤ hi) (hh : hi < 2 ^ 30) (w : Int32) :
    (∃ (v : Nat) (C' : Int32 × Int32 × Int32 × Int32 × Int32 × Int64) (M' : Int32 × Int32 × Int32 × Int32 × Int32 × Int32 × Int32 × Int64) (q' : Nat), lo ≤ v ∧ v ≤ hi ∧ C.1 = 2 ∧ C.2.2.2.2.1 = nI v ∧ f_X7_isWholeWithin P Q 0 C.1 C.2.2.2.2.1 = some (1, 0) ∧ f_X7_advance (nI n) C.1 C.2.1 C.2.2.1 C.2.2.2.1 C.2.2.2.2.1 C.2.2.2.2.2 tb = some C' ∧ f_X13_readWhole P Q 0 M.1 M.2.1 M.2.2.1 M.2.2.2.1 M.2.2.2.2.1 (nI n) M.2.2.2.2.2.1 M.2.2.2.2.2.2.1 M.2.2.2.2.2.2.2 w mt = some (nI v, 0, M'.1, M'.2.1, M'.2.2.1, M'.2.2.2.1, M'.2.2.2.2.1, M'.2.2.2.2.2.1, M'.2.2.2.2.2.2.1, M'.2.2.2.2.2.2.2, w) ∧ q ≤ q' ∧ TK tb B n C' M' q') ∨
    (∃ (F : Int32) (M' : Int32 × Int32 × Int32 × Int32 × Int32 × Int32 × Int32 × Int64), 0 < F ∧ f_X7_isWholeWithin P Q 0 C.1 C.2.2.2.2.1 = some (0, F) ∧ M'.2.2.2.2.2.1 = 5 ∧ f_X13_readWhole P Q 0 M.1 M.2.1 M.2.2.1 M.2.2.2.1 M.2.2.2.2.1 (nI n) M.2.2.2.2.2.1 M.2.2.2.2.2.2.1 M.2.2.2.2.2.2.2 w mt = some (P, F, M'.1, M'.2.1, M'.2.2.1, M'.2.2.2.1, M'.2.2.2.2.1, M'.2.2.2.2.2.1, M'.2.2.2.2.2.2.1, M'.2.2.2.2.2.2.2, C.2.2.2.1)) := by
  rcases q_wholeAt k lo hi P Q hP hQ hl hh w with ⟨v, l1, l2, c1, cv, e1, e2⟩ | ⟨F, f0, e1, e2⟩
  · obtain ⟨-, C', M', q', a1, a2, a3, a4⟩ := adv hn h k (by rw [c1]; decide)
    refine Or.inl ⟨v, C', M', q', l1, l2, c1, cv, e1, a2, ?_, a1, a4⟩
    rw [f_X13_readWhole, e2, bd_s]; (try dsimp only); rw [ a3, bd_s]
  · refine Or.inr ⟨F, (M.1, M.2.1, M.2.2.1, M.2.2.2.1, M.2.2.2.2.1, 5, M.2.2.2.2.2.2.1, M.2.2.2.2.2.2.2), f0, e1, rfl, ?_⟩
    rw [f_X13_readWhole, e2, bd_s]; (try dsimp only); rw [ go5 rfl, bd_s]
theorem q_31 {tb mt : Nat → Int32} {n B : Nat} (hn : n ≤ 500) (h : ∀ i, i < n → tb i = mt i) {C : Int32 × Int32 × Int32 × Int32 × Int32 × Int64} {M : Int32 × Int32 × Int32 × Int32 × Int32 × Int32 × Int32 × Int64} {q : Nat} (k : TK tb B n C M q) (x num w : Int32) :
    (∃ (v : Nat) (C' : Int32 × Int32 × Int32 × Int32 × Int32 × Int64) (M' : Int32 × Int32 × Int32 × Int32 × Int32 × Int32 × Int32 × Int64) (q' : Nat), v ≤ 99 ∧ q ≤ q' ∧ f_X7_takesNumber_31 x (nI n) 0 C.1 C.2.1 C.2.2.1 num C.2.2.2.1 C.2.2.2.2.1 C.2.2.2.2.2 tb = some (1, 0, C'.1, C'.2.1, C'.2.2.1, (if x = 0 then nI v else -nI v), C'.2.2.2.1, C'.2.2.2.2.1, C'.2.2.2.2.2) ∧ f_X13_readWhole 0 99 0 M.1 M.2.1 M.2.2.1 M.2.2.2.1 M.2.2.2.2.1 (nI n) M.2.2.2.2.2.1 M.2.2.2.2.2.2.1 M.2.2.2.2.2.2.2 w mt = some (nI v, 0, M'.1, M'.2.1, M'.2.2.1, M'.2.2.2.1, M'.2.2.2.2.1, M'.2.2.2.2.2.1, M'.2.2.2.2.2.2.1, M'.2.2.2.2.2.2.2, w) ∧ TK tb B n C' M' q') ∨
    (∃ (F : Int32) (M' : Int32 × Int32 × Int32 × Int32 × Int32 × Int32 × Int32 × Int64), 0 < F ∧ f_X7_takesNumber_31 x (nI n) 0 C.1 C.2.1 C.2.2.1 num C.2.2.2.1 C.2.2.2.2.1 C.2.2.2.2.2 tb = some (0, F, C.1, C.2.1, C.2.2.1, num, C.2.2.2.1, C.2.2.2.2.1, C.2.2.2.2.2) ∧ M'.2.2.2.2.2.1 = 5 ∧ f_X13_readWhole 0 99 0 M.1 M.2.1 M.2.2.1 M.2.2.2.1 M.2.2.2.2.1 (nI n) M.2.2.2.2.2.1 M.2.2.2.2.2.2.1 M.2.2.2.2.2.2.2 w mt = some (0, F, M'.1, M'.2.1, M'.2.2.1, M'.2.2.2.1, M'.2.2.2.2.1, M'.2.2.2.2.2.1, M'.2.2.2.2.2.2.1, M'.2.2.2.2.2.2.2, C.2.2.2.1)) := by
  rcases q_readWhole hn h k 0 99 0 99 rfl rfl (by omega) (by omega) w with ⟨v, C', M', q', -, l2, c1, cv, e1, e2, e3, e4, e5⟩ | ⟨F, M', f0, e1, e2, e3⟩
  · refine Or.inl ⟨v, C', M', q', l2, e4, ?_, e3, e5⟩
    rw [f_X7_takesNumber_31, e1, bd_s, if_neg n10]
    by_cases z : x = 0
    · rw [if_pos z, if_pos z, f_X7_takesNumber_60, e2, bd_s, cv]
    · rw [if_neg z, if_neg z, f_X7_takesNumber_60, e2, bd_s, cv]
  · refine Or.inr ⟨F, M', f0, ?_, e2, e3⟩
    rw [f_X7_takesNumber_31, e1, bd_s, if_pos z00]
theorem ib_nI {v : Nat} (h : v ≤ 99) : ib (nI v) 99 ∧ ib (-nI v) 99 := by
  have a : ib (nI v) 99 := by unfold ib; rw [nI_toInt (by omega)]; omega
  exact ⟨a, (ib_neg a (by omega)).2⟩
theorem q_number {tb mt : Nat → Int32} {n B : Nat} (hn : n ≤ 500) (h : ∀ i, i < n → tb i = mt i) {C : Int32 × Int32 × Int32 × Int32 × Int32 × Int64} {M : Int32 × Int32 × Int32 × Int32 × Int32 × Int32 × Int32 × Int64} {q : Nat} (k : TK tb B n C M q) (num w : Int32) :
    ∃ (e : Int32) (M1 : Int32 × Int32 × Int32 × Int32 × Int32 × Int32 × Int32 × Int64), f_X13_eats 45 M.1 M.2.1 M.2.2.1 M.2.2.2.1 M.2.2.2.2.1 (nI n) M.2.2.2.2.2.1 M.2.2.2.2.2.2.1 M.2.2.2.2.2.2.2 mt = some (e, M1.1, M1.2.1, M1.2.2.1, M1.2.2.2.1, M1.2.2.2.2.1, M1.2.2.2.2.2.1, M1.2.2.2.2.2.2.1, M1.2.2.2.2.2.2.2) ∧
    ((∃ (v : Nat) (C' : Int32 × Int32 × Int32 × Int32 × Int32 × Int64) (M' : Int32 × Int32 × Int32 × Int32 × Int32 × Int32 × Int32 × Int64) (q' : Nat), v ≤ 99 ∧ q ≤ q' ∧ f_X7_takesNumber (nI n) 0 C.1 C.2.1 C.2.2.1 num C.2.2.2.1 C.2.2.2.2.1 C.2.2.2.2.2 tb = some (1, 0, C'.1, C'.2.1, C'.2.2.1, (if e = 0 then nI v else -nI v), C'.2.2.2.1, C'.2.2.2.2.1, C'.2.2.2.2.2) ∧ f_X13_readWhole 0 99 0 M1.1 M1.2.1 M1.2.2.1 M1.2.2.2.1 M1.2.2.2.2.1 (nI n) M1.2.2.2.2.2.1 M1.2.2.2.2.2.2.1 M1.2.2.2.2.2.2.2 w mt = some (nI v, 0, M'.1, M'.2.1, M'.2.2.1, M'.2.2.2.1, M'.2.2.2.2.1, M'.2.2.2.2.2.1, M'.2.2.2.2.2.2.1, M'.2.2.2.2.2.2.2, w) ∧ TK tb B n C' M' q') ∨
     (∃ (F : Int32) (C' : Int32 × Int32 × Int32 × Int32 × Int32 × Int64) (M' : Int32 × Int32 × Int32 × Int32 × Int32 × Int32 × Int32 × Int64), 0 < F ∧ f_X7_takesNumber (nI n) 0 C.1 C.2.1 C.2.2.1 num C.2.2.2.1 C.2.2.2.2.1 C.2.2.2.2.2 tb = some (0, F, C'.1, C'.2.1, C'.2.2.1, num, C'.2.2.2.1, C'.2.2.2.2.1, C'.2.2.2.2.2) ∧ M'.2.2.2.2.2.1 = 5 ∧ f_X13_readWhole 0 99 0 M1.1 M1.2.1 M1.2.2.1 M1.2.2.2.1 M1.2.2.2.2.1 (nI n) M1.2.2.2.2.2.1 M1.2.2.2.2.2.2.1 M1.2.2.2.2.2.2.2 w mt = some (0, F, M'.1, M'.2.1, M'.2.2.1, M'.2.2.2.1, M'.2.2.2.2.1, M'.2.2.2.2.2.1, M'.2.2.2.2.2.2.1, M'.2.2.2.2.2.2.2, C'.2.2.2.1))) := by
  have flat : (¬ (C.1 = 3 ∧ C.2.2.2.2.1 = 45)) → (¬ (M.2.2.2.2.2.1 = 4 ∧ M.2.2.1 = 45)) → ∃ (e : Int32) (M1 : Int32 × Int32 × Int32 × Int32 × Int32 × Int32 × Int32 × Int64), f_X13_eats 45 M.1 M.2.1 M.2.2.1 M.2.2.2.1 M.2.2.2.2.1 (nI n) M.2.2.2.2.2.1 M.2.2.2.2.2.2.1 M.2.2.2.2.2.2.2 mt = some (e, M1.1, M1.2.1, M1.2.2.1, M1.2.2.2.1, M1.2.2.2.2.1, M1.2.2.2.2.2.1, M1.2.2.2.2.2.2.1, M1.2.2.2.2.2.2.2) ∧
    ((∃ (v : Nat) (C' : Int32 × Int32 × Int32 × Int32 × Int32 × Int64) (M' : Int32 × Int32 × Int32 × Int32 × Int32 × Int32 × Int32 × Int64) (q' : Nat), v ≤ 99 ∧ q ≤ q' ∧ f_X7_takesNumber (nI n) 0 C.1 C.2.1 C.2.2.1 num C.2.2.2.1 C.2.2.2.2.1 C.2.2.2.2.2 tb = some (1, 0, C'.1, C'.2.1, C'.2.2.1, (if e = 0 then nI v else -nI v), C'.2.2.2.1, C'.2.2.2.2.1, C'.2.2.2.2.2) ∧ f_X13_readWhole 0 99 0 M1.1 M1.2.1 M1.2.2.1 M1.2.2.2.1 M1.2.2.2.2.1 (nI n) M1.2.2.2.2.2.1 M1.2.2.2.2.2.2.1 M1.2.2.2.2.2.2.2 w mt = some (nI v, 0, M'.1, M'.2.1, M'.2.2.1, M'.2.2.2.1, M'.2.2.2.2.1, M'.2.2.2.2.2.1, M'.2.2.2.2.2.2.1, M'.2.2.2.2.2.2.2, w) ∧ TK tb B n C' M' q') ∨
     (∃ (F : Int32) (C' : Int32 × Int32 × Int32 × Int32 × Int32 × Int64) (M' : Int32 × Int32 × Int32 × Int32 × Int32 × Int32 × Int32 × Int64), 0 < F ∧ f_X7_takesNumber (nI n) 0 C.1 C.2.1 C.2.2.1 num C.2.2.2.1 C.2.2.2.2.1 C.2.2.2.2.2 tb = some (0, F, C'.1, C'.2.1, C'.2.2.1, num, C'.2.2.2.1, C'.2.2.2.2.1, C'.2.2.2.2.2) ∧ M'.2.2.2.2.2.1 = 5 ∧ f_X13_readWhole 0 99 0 M1.1 M1.2.1 M1.2.2.1 M1.2.2.2.1 M1.2.2.2.2.1 (nI n) M1.2.2.2.2.2.1 M1.2.2.2.2.2.2.1 M1.2.2.2.2.2.2.2 w mt = some (0, F, M'.1, M'.2.1, M'.2.2.1, M'.2.2.2.1, M'.2.2.2.2.1, M'.2.2.2.2.2.1, M'.2.2.2.2.2.2.1, M'.2.2.2.2.2.2.2, C'.2.2.2.1))) := fun a b => by
    have t : f_X7_takesNumber (nI n) 0 C.1 C.2.1 C.2.2.1 num C.2.2.2.1 C.2.2.2.2.1 C.2.2.2.2.2 tb = f_X7_takesNumber_31 0 (nI n) 0 C.1 C.2.1 C.2.2.1 num C.2.2.2.1 C.2.2.2.2.1 C.2.2.2.2.2 tb := by
      have y : f_X7_takesNumber_21 (nI n) 0 C.1 C.2.1 C.2.2.1 num C.2.2.2.1 C.2.2.2.2.1 C.2.2.2.2.2 tb = f_X7_takesNumber_31 0 (nI n) 0 C.1 C.2.1 C.2.2.1 num C.2.2.2.1 C.2.2.2.2.1 C.2.2.2.2.2 tb := by rw [f_X7_takesNumber_21, f_X7_takesNumber_22, if_pos z00]
      rw [f_X7_takesNumber]
      by_cases z : C.1 = 3
      · rw [if_pos z, if_neg (fun z' => a ⟨z, z'⟩), y]
      · rw [if_neg z, y]
    have e : f_X13_eats 45 M.1 M.2.1 M.2.2.1 M.2.2.2.1 M.2.2.2.2.1 (nI n) M.2.2.2.2.2.1 M.2.2.2.2.2.2.1 M.2.2.2.2.2.2.2 mt = some (0, M.1, M.2.1, M.2.2.1, M.2.2.2.1, M.2.2.2.2.1, M.2.2.2.2.2.1, M.2.2.2.2.2.2.1, M.2.2.2.2.2.2.2) := by
      have y : f_X13_eats_20 M.1 M.2.1 M.2.2.1 M.2.2.2.1 M.2.2.2.2.1 (nI n) M.2.2.2.2.2.1 M.2.2.2.2.2.2.1 M.2.2.2.2.2.2.2 mt = some (0, M.1, M.2.1, M.2.2.1, M.2.2.2.1, M.2.2.2.2.1, M.2.2.2.2.2.1, M.2.2.2.2.2.2.1, M.2.2.2.2.2.2.2) := by rw [f_X13_eats_20, f_X13_eats_21, if_pos z00, gd_t _ (Or.inl rfl)]
      rw [f_X13_eats]
      by_cases z : M.2.2.2.2.2.1 = 4
      · rw [if_pos z, if_neg (fun z' => b ⟨z, z'⟩), y]
      · rw [if_neg z, y]
    rw [t]
    rcases q_31 hn h k 0 num w with ⟨v, C', M', q', l, a1, a2, a3, a4⟩ | ⟨F, M', f0, a1, a2, a3⟩
    · exact ⟨0, M, e, Or.inl ⟨v, C', M', q', l, a1, a2, a3, a4⟩⟩
    · exact ⟨0, M, e, Or.inr ⟨F, C, M', f0, a1, a2, a3⟩⟩
  have k' := k
  obtain ⟨p, cp, mp, o⟩ := k'
  rcases o with ⟨c, m⟩ | ⟨-, -, -, -, ⟨c, m⟩ | ⟨-, ⟨c, m, -⟩ | ⟨c, m, -⟩ | ⟨c, m, cv, -⟩⟩⟩
  · exact flat (fun z => by rw [c] at z; exact absurd z.1 (by decide)) (fun z => by rw [m] at z; exact absurd z.1 (by decide))
  · exact flat (fun z => by rw [c] at z; exact absurd z.1 (by decide)) (fun z => by rw [m] at z; exact absurd z.1 (by decide))
  · exact flat (fun z => by rw [c] at z; exact absurd z.1 (by decide)) (fun z => by rw [m] at z; exact absurd z.1 (by decide))
  · exact flat (fun z => by rw [c] at z; exact absurd z.1 (by decide)) (fun z => by rw [m] at z; exact absurd z.1 (by decide))
  · by_cases z : M.2.2.1 = 45
    · obtain ⟨-, C1, M1, q1, a1, a2, a3, a4⟩ := adv hn h k (by rw [c]; decide)
      have e : f_X13_eats 45 M.1 M.2.1 M.2.2.1 M.2.2.2.1 M.2.2.2.2.1 (nI n) M.2.2.2.2.2.1 M.2.2.2.2.2.2.1 M.2.2.2.2.2.2.2 mt = some (1, M1.1, M1.2.1, M1.2.2.1, M1.2.2.2.1, M1.2.2.2.2.1, M1.2.2.2.2.2.1, M1.2.2.2.2.2.2.1, M1.2.2.2.2.2.2.2) := by rw [f_X13_eats, if_pos m, if_pos z, f_X13_eats_21, if_neg n10, a3, bd_s, gd_t _ (Or.inr rfl)]
      have t : f_X7_takesNumber (nI n) 0 C.1 C.2.1 C.2.2.1 num C.2.2.2.1 C.2.2.2.2.1 C.2.2.2.2.2 tb = f_X7_takesNumber_31 1 (nI n) 0 C1.1 C1.2.1 C1.2.2.1 num C1.2.2.2.1 C1.2.2.2.2.1 C1.2.2.2.2.2 tb := by rw [f_X7_takesNumber, if_pos c, if_pos (cv.trans z), f_X7_takesNumber_22, if_neg n10, a2, bd_s]
      rw [t]
      rcases q_31 hn h a4 1 num w with ⟨v, C', M', q', l, b1, b2, b3, b4⟩ | ⟨F, M', f0, b1, b2, b3⟩
      · exact ⟨1, M1, e, Or.inl ⟨v, C', M', q', l, by omega, b2, b3, b4⟩⟩
      · exact ⟨1, M1, e, Or.inr ⟨F, C1, M', f0, b1, b2, b3⟩⟩
    · exact flat (fun y => z (cv.symm.trans y.2)) (fun y => z y.2)
/-- a word, then a number -/
theorem q_readNumber {tb mt : Nat → Int32} {n B : Nat} (hn : n ≤ 500) (h : ∀ i, i < n → tb i = mt i) {C : Int32 × Int32 × Int32 × Int32 × Int32 × Int64} {M : Int32 × Int32 × Int32 × Int32 × Int32 × Int32 × Int32 × Int64} {q : Nat} (k : TK tb B n C M q) {j j' : Nat} (hj : j < 8) (e : j' = 8 + j) (num w : Int32) :
    (f_X7_takesWord j (nI n) 0 C.1 C.2.1 C.2.2.1 C.2.2.2.1 C.2.2.2.2.1 C.2.2.2.2.2 tb = some (0, 1, C.1, C.2.1, C.2.2.1, C.2.2.2.1, C.2.2.2.2.1, C.2.2.2.2.2) ∧ ∃ M' : Int32 × Int32 × Int32 × Int32 × Int32 × Int32 × Int32 × Int64, M'.2.2.2.2.2.1 = 5 ∧ f_X13_readNumber j' 0 M.1 M.2.1 M.2.2.1 M.2.2.2.1 M.2.2.2.2.1 (nI n) M.2.2.2.2.2.1 M.2.2.2.2.2.2.1 M.2.2.2.2.2.2.2 w mt = some (0, 1, M'.1, M'.2.1, M'.2.2.1, M'.2.2.2.1, M'.2.2.2.2.1, M'.2.2.2.2.2.1, M'.2.2.2.2.2.2.1, M'.2.2.2.2.2.2.2, C.2.2.2.1)) ∨
    (∃ C1 : Int32 × Int32 × Int32 × Int32 × Int32 × Int64, f_X7_takesWord j (nI n) 0 C.1 C.2.1 C.2.2.1 C.2.2.2.1 C.2.2.2.2.1 C.2.2.2.2.2 tb = some (1, 0, C1.1, C1.2.1, C1.2.2.1, C1.2.2.2.1, C1.2.2.2.2.1, C1.2.2.2.2.2) ∧
      ((∃ (F x : Int32) (C2 : Int32 × Int32 × Int32 × Int32 × Int32 × Int64) (M' : Int32 × Int32 × Int32 × Int32 × Int32 × Int32 × Int32 × Int64), 0 < F ∧ f_X7_takesNumber (nI n) 0 C1.1 C1.2.1 C1.2.2.1 num C1.2.2.2.1 C1.2.2.2.2.1 C1.2.2.2.2.2 tb = some (0, F, C2.1, C2.2.1, C2.2.2.1, num, C2.2.2.2.1, C2.2.2.2.2.1, C2.2.2.2.2.2) ∧ M'.2.2.2.2.2.1 = 5 ∧ f_X13_readNumber j' 0 M.1 M.2.1 M.2.2.1 M.2.2.2.1 M.2.2.2.2.1 (nI n) M.2.2.2.2.2.1 M.2.2.2.2.2.2.1 M.2.2.2.2.2.2.2 w mt = some (x, F, M'.1, M'.2.1, M'.2.2.1, M'.2.2.2.1, M'.2.2.2.2.1, M'.2.2.2.2.2.1, M'.2.2.2.2.2.2.1, M'.2.2.2.2.2.2.2, C2.2.2.2.1)) ∨
       (∃ (x : Int32) (C2 : Int32 × Int32 × Int32 × Int32 × Int32 × Int64) (M' : Int32 × Int32 × Int32 × Int32 × Int32 × Int32 × Int32 × Int64) (q' : Nat), q ≤ q' ∧ ib x 99 ∧ f_X7_takesNumber (nI n) 0 C1.1 C1.2.1 C1.2.2.1 num C1.2.2.2.1 C1.2.2.2.2.1 C1.2.2.2.2.2 tb = some (1, 0, C2.1, C2.2.1, C2.2.2.1, x, C2.2.2.2.1, C2.2.2.2.2.1, C2.2.2.2.2.2) ∧ f_X13_readNumber j' 0 M.1 M.2.1 M.2.2.1 M.2.2.2.1 M.2.2.2.2.1 (nI n) M.2.2.2.2.2.1 M.2.2.2.2.2.2.1 M.2.2.2.2.2.2.2 w mt = some (x, 0, M'.1, M'.2.1, M'.2.2.1, M'.2.2.2.1, M'.2.2.2.2.1, M'.2.2.2.2.2.1, M'.2.2.2.2.2.2.1, M'.2.2.2.2.2.2.2, w) ∧ TK tb B n C2 M' q'))) := by
  rcases q_needs hn h k hj e w with ⟨C1, M1, q1, a1, a2, a3, a4⟩ | ⟨a1, M1, a2, a3⟩
  · refine Or.inr ⟨C1, a2, ?_⟩
    obtain ⟨s, M2, b1, b⟩ := q_number hn h a4 num w
    rcases b with ⟨v, C', M', q', l, b2, b3, b4, b5⟩ | ⟨F, C', M', f0, b2, b3, b4⟩
    · refine Or.inr ⟨if s = 0 then nI v else -nI v, C', M', q', by omega, ?_, b3, ?_, b5⟩
      · obtain ⟨i1, i2⟩ := ib_nI l
        split
        · exact i1
        · exact i2
      · rw [f_X13_readNumber, a3, bd_s]; (try dsimp only); rw [ b1, bd_s]; (try dsimp only); rw [ b4, bd_s]; (try dsimp only); split <;> rfl
    · refine Or.inl ⟨F, if s = 0 then 0 else -0, C', M', f0, b2, b3, ?_⟩
      rw [f_X13_readNumber, a3, bd_s]; (try dsimp only); rw [ b1, bd_s]; (try dsimp only); rw [ b4, bd_s]; (try dsimp only); split <;> rfl
  · refine Or.inl ⟨a1, M1, a2, ?_⟩
    rw [f_X13_readNumber, a3, bd_s]; (try dsimp only); rw [ ea5 a2, bd_s]; (try dsimp only); rw [ rw5 a2, bd_s]; (try dsimp only); rw [ if_pos z00]
