/-! KINDS -/
theorem q_how (p : Int32) : (∃ x : Nat, x < 4 ∧ p = nI x ∧ f_X11_isNoHow p = some 0 ∧ f_X13_in p 0 3 = some 1) ∨ (f_X11_isNoHow p = some 1 ∧ f_X13_in p 0 3 = some 0) := by
  rcases q_in 0 3 0 3 4 rfl rfl rfl (by omega) (by omega) p with ⟨k, -, k2, rfl, g1, g3, g2, -, -, e7⟩ | ⟨g, e7⟩
  · refine Or.inl ⟨k, by omega, rfl, ?_, e7⟩
    simp only [f_X11_isNoHow, g1, g2, g3, if_false, if_true]
  · refine Or.inr ⟨?_, e7⟩
    rcases g with g | ⟨g, g3, g', -, -⟩
    · simp only [f_X11_isNoHow, g, if_true]
    · simp only [f_X11_isNoHow, g, g', g3, if_false, if_true]
theorem q_least {c : Nat} {L R V : Nat → Int32} (h : SV c L R V) (p w t a b d : Int32) : ∃ x y : Int32, y ≠ 4 ∧ f_X11_least p w t (nI c) L R = some (x, y) ∧ f_X13_least p w a b d (nI c) V = some (x, 0, y, -1) := by
  rcases q_sv h p with ⟨s, n, r, hs, hs5, h1, h2, hr, -, -, -, e1, e2, e3, e4, e5, e6⟩ | ⟨e1, e2⟩
  · have h1' : 1 ≤ n := by omega
    rcases q_how w with ⟨x, hx, rfl, e7, e8⟩ | ⟨e7, e8⟩
    · refine ⟨nI (rLA n r x 4), 0, by decide, ?_, ?_⟩
      · simp only [f_X11_least, e1, e3, e4, e7, bd_s, if_true, x8_leastAlike h1' h2 hr hx, f_X11_granted]
      · simp only [f_X13_least, f_X13_leastBy, e2, e5, e6, e8, bd_s, i10, if_false, x13_leastAlike h1' h2 hr hx, f_X13_good]
    · refine ⟨-1, 2, by decide, ?_, ?_⟩
      · simp only [f_X11_least, e1, e7, bd_s, if_true, i10, if_false, f_X11_refused]
      · simp only [f_X13_least, e2, e8, bd_s, if_true, i10, if_false, f_X13_refused]
  · refine ⟨-1, 1, by decide, ?_, ?_⟩
    · simp only [f_X11_least, e1, bd_s, i10, if_false, f_X11_refused]
    · simp only [f_X13_least, e2, bd_s, if_true, f_X13_refused]
theorem q_alike {c : Nat} {L R V : Nat → Int32} (h : SV c L R V) (p q w t a b d : Int32) : ∃ x y : Int32, y ≠ 4 ∧ f_X11_alike p q w t (nI c) L R = some (x, y) ∧ f_X13_alike p q w a b d (nI c) V = some (x, 0, y, -1) := by
  rcases q_sv h p with ⟨s, n, r, hs, hs5, h1, h2, hr, -, -, -, e1, e2, e3, e4, e5, e6⟩ | ⟨e1, e2⟩
  · rcases q_sv h q with ⟨s', n', r', hs', hs5', h1', h2', hr', -, -, -, k1, k2, k3, k4, k5, k6⟩ | ⟨k1, k2⟩
    · rcases q_how w with ⟨x, hx, rfl, e7, e8⟩ | ⟨e7, e8⟩
      · by_cases e : n = n'
        · subst e
          have g1 : 1 ≤ n := by omega
          by_cases y : nI (rLA n r x 4) = nI (rLA n r' x 4)
          · exact ⟨1, 0, by decide, by simp only [f_X11_alike, e1, e3, e4, k1, k3, k4, e7, bd_s, if_true, x8_leastAlike g1 h2 hr hx, x8_leastAlike g1 h2 hr' hx, y, f_X11_alike_107, f_X11_granted], by simp only [f_X13_alike, f_X13_leastBy, e2, e5, e6, k2, k5, k6, e8, bd_s, i10, if_true, if_false, x13_leastAlike g1 h2 hr hx, x13_leastAlike g1 h2 hr' hx, y, f_X13_alike_76, f_X13_good]⟩
          · exact ⟨0, 0, by decide, by simp only [f_X11_alike, e1, e3, e4, k1, k3, k4, e7, bd_s, if_true, x8_leastAlike g1 h2 hr hx, x8_leastAlike g1 h2 hr' hx, y, if_false, f_X11_alike_107, f_X11_granted], by simp only [f_X13_alike, f_X13_leastBy, e2, e5, e6, k2, k5, k6, e8, bd_s, i10, if_true, if_false, x13_leastAlike g1 h2 hr hx, x13_leastAlike g1 h2 hr' hx, y, f_X13_alike_75, f_X13_alike_76, f_X13_good]⟩
        · have z : ¬ nI n = nI n' := fun z => e ((nI_eq (by omega) (by omega)).mp z)
          exact ⟨0, 0, by decide, by simp only [f_X11_alike, e1, e4, k1, k4, e7, bd_s, if_true, z, if_false, f_X11_granted], by simp only [f_X13_alike, e2, e6, k2, k6, e8, bd_s, i10, if_false, z, f_X13_alike_75, f_X13_alike_76, f_X13_good]⟩
      · refine ⟨-1, 2, by decide, ?_, ?_⟩
        · simp only [f_X11_alike, e1, k1, e7, bd_s, i10, if_true, if_false, f_X11_refused]
        · simp only [f_X13_alike, e2, k2, e8, bd_s, i10, if_true, if_false, f_X13_refused]
    · refine ⟨-1, 1, by decide, ?_, ?_⟩
      · simp only [f_X11_alike, e1, k1, bd_s, i10, if_true, if_false, f_X11_alike_16, f_X11_refused]
      · simp only [f_X13_alike, e2, k2, bd_s, i10, if_true, if_false, f_X13_alike_21, f_X13_refused]
  · refine ⟨-1, 1, by decide, ?_, ?_⟩
    · simp only [f_X11_alike, e1, bd_s, i10, if_false, f_X11_alike_16, f_X11_refused]
    · simp only [f_X13_alike, e2, bd_s, if_true, f_X13_alike_21, f_X13_refused]
/-! a row that is the least of its kind -/
theorem rMn_le {n s : Nat} : ∀ i j, j ≤ i → rMn n s i ≤ rTi n s j
  | 0, j, h => by rw [show j = 0 by omega]; exact Nat.le_refl _
  | i + 1, j, h => by
    by_cases e : j = i + 1
    · rw [e]; exact Nat.min_le_right _ _
    · exact Nat.le_trans (Nat.min_le_left _ _) (rMn_le i j (by omega))
theorem rMn_ge {n s m : Nat} : ∀ i, (∀ j, j ≤ i → m ≤ rTi n s j) → m ≤ rMn n s i
  | 0, h => h 0 (Nat.le_refl _)
  | i + 1, h => Nat.le_min.mpr ⟨rMn_ge i (fun j hj => h j (by omega)), h (i + 1) (Nat.le_refl _)⟩
theorem rLA_mono (n r x : Nat) : ∀ a d, rLA n r x (a + d) ≤ rLA n r x a
  | _, 0 => Nat.le_refl _
  | a, d + 1 => by
    refine Nat.le_trans ?_ (rLA_mono n r x a d)
    show rLA n r x (a + d + 1) ≤ _
    rw [rLA]
    split
    · exact Nat.le_refl _
    · exact Nat.min_le_left _ _
theorem x8_isLeast_18 {n r x a : Nat} {k2 : Int32 → Int32 → Int32 → Int32 → Option Int32} (h1 : 1 ≤ n) (h2 : n ≤ 12) (hr : r < 2 ^ n) (hx : x < 4) (ha : a < 4) (hA : rLA n r x a = r) : ∀ (f i : Nat), i ≤ n → n - i < f → (rSub a x = 1 → ∀ j, j < i → r ≤ rTi n (rL n r a) j) →
    (rLA n r x (a + 1) = r ∧ f_X8_isLeastAlike_18 k2 f (nI r) (nI n) (nI x) (nI a) (nI (rTi n (rL n r a) i)) (nI i) = k2 (nI r) (nI n) (nI x) (nI (a + 1))) ∨
    (rLA n r x 4 ≠ r ∧ f_X8_isLeastAlike_18 k2 f (nI r) (nI n) (nI x) (nI a) (nI (rTi n (rL n r a) i)) (nI i) = some 0)
  | 0, _, _, h, _ => absurd h (Nat.not_lt_zero _)
  | f + 1, i, hi, hf, hj => by
    have lr := r4096 h2 hr
    have lt := r4096 h2 (rTi_lt h1 h2 (rL_lt (a := a) h1 h2 hr) i)
    rw [f_X8_isLeastAlike_18]
    by_cases q : n ≤ i
    · rw [if_pos ((nI_leI (by omega) (by omega)).mpr q), f_X8_isLeastAlike_54, nI_1]
      refine Or.inl ⟨?_, rfl⟩
      rw [rLA]
      rcases rSub_01 a x with e | e
      · rw [if_pos e]; exact hA
      · rw [if_neg (by omega), hA]
        exact Nat.min_eq_left (rMn_ge _ (fun j hj' => hj e j (by omega)))
    · rw [if_neg (fun z => q ((nI_leI (by omega) (by omega)).mp z)), x8_allows hx ha, bd_s]
      rcases rSub_01 a x with e | e
      · rw [e, if_pos nI_0, f_X8_isLeastAlike_54, nI_1]
        refine Or.inl ⟨?_, rfl⟩
        rw [rLA, if_pos e]; exact hA
      · rw [e, if_neg (by decide)]
        by_cases q2 : r ≤ rTi n (rL n r a) i
        · rw [if_pos ((nI_leI (by omega) (by omega)).mpr q2), x8_turned h1 h2 (rTi_lt h1 h2 (rL_lt h1 h2 hr) i), bd_s, nI_1]
          exact x8_isLeast_18 h1 h2 hr hx ha hA f (i + 1) (by omega) (by omega) (fun _ j hj' => by
            by_cases z : j = i
            · rw [z]; exact q2
            · exact hj e j (by omega))
        · rw [if_neg (fun z => q2 ((nI_leI (by omega) (by omega)).mp z))]
          refine Or.inr ⟨fun z => ?_, rfl⟩
          have m1 := rLA_mono n r x (a + 1) (4 - (a + 1))
          rw [show a + 1 + (4 - (a + 1)) = 4 by omega, z] at m1
          have m2 : rLA n r x (a + 1) ≤ rMn n (rL n r a) (n - 1) := by
            rw [rLA, if_neg (by omega)]; exact Nat.min_le_right _ _
          have m3 := rMn_le (n := n) (s := rL n r a) (n - 1) i (by omega)
          omega
theorem x8_isLeast_2 {n r x : Nat} (h1 : 1 ≤ n) (h2 : n ≤ 12) (hr : r < 2 ^ n) (hx : x < 4) : ∀ (f a : Nat), a ≤ 4 → 4 - a < f → rLA n r x a = r →
    f_X8_isLeastAlike_2 f (nI r) (nI n) (nI x) (nI a) = some (if rLA n r x 4 = r then 1 else 0)
  | 0, _, _, h, _ => absurd h (Nat.not_lt_zero _)
  | f + 1, a, ha, hf, hA => by
    rw [f_X8_isLeastAlike_2]
    by_cases q : 3 < a
    · rw [if_pos (show (3 : Int32) < nI a from (nI_ltI (a := 3) (by omega) (by omega)).mpr q), if_pos (by rw [show 4 = a by omega]; exact hA)]
    · have ha4 : a < 4 := by omega
      rw [if_neg (show ¬ (3 : Int32) < nI a from fun z => q ((nI_ltI (a := 3) (by omega) (by omega)).mp z)), x8_inWay h1 h2 hr ha4, bd_s]
      rcases x8_isLeast_18 (k2 := fun x0 x1 x2 x3 => f_X8_isLeastAlike_2 f x0 x1 x2 x3) h1 h2 hr hx ha4 hA kFU 0 (Nat.zero_le _) (by unfold kFU; omega) (fun _ j hj => absurd hj (Nat.not_lt_zero _)) with ⟨z1, z2⟩ | ⟨z1, z2⟩
      · refine Eq.trans z2 ?_
        exact x8_isLeast_2 h1 h2 hr hx f (a + 1) (by omega) (by omega) z1
      · rw [if_neg z1]
        exact z2
theorem x8_isLeast {n r x : Nat} (h1 : 1 ≤ n) (h2 : n ≤ 12) (hr : r < 2 ^ n) (hx : x < 4) : f_X8_isLeastAlike (nI r) (nI n) (nI x) = some (if rLA n r x 4 = r then 1 else 0) :=
  x8_isLeast_2 h1 h2 hr hx kFU 0 (Nat.zero_le _) (by unfold kFU; omega) rfl
theorem x8_closes {n r : Nat} (h1 : 1 ≤ n) (h2 : n ≤ 12) (hr : r < 2 ^ n) : f_X8_closes (nI r) (nI n) = some (if rRep n r = n then 1 else 0) := by
  rw [f_X8_closes, x8_total h2 hr, bd_s]
  unfold rRep
  by_cases q : (rP r + n) % 3 = 0
  · rw [if_pos ((rp_tot (rPc_le 12 r) h1 h2).mpr q), if_pos q, if_pos rfl]
  · rw [if_neg (fun z => q ((rp_tot (rPc_le 12 r) h1 h2).mp z)), if_neg q, if_neg (by omega)]
theorem q_kinds_l {n x : Nat} (h1 : 1 ≤ n) (h2 : n ≤ 12) (hx : x < 4) (cl' t w a b d : Int32) : ∀ (f g r : Nat) (S : Int32), r ≤ 2 ^ n → 2 ^ n - r < f → 2 ^ n - r < g →
    ∃ S' : Int32, f_X11_kinds_48 f (nI n) (nI x) cl' S (nI r) t w = some (S', 0) ∧ f_X13_kinds_49 g (nI n) (nI x) cl' S (nI r) a b d = some (S', a, 0, -1)
  | 0, _, _, _, _, hf, _ => absurd hf (Nat.not_lt_zero _)
  | _ + 1, 0, _, _, _, _, hg => absurd hg (Nat.not_lt_zero _)
  | f + 1, g + 1, r, S, hr, hf, hg => by
    have l := p4096 h2
    have l0 := Nat.two_pow_pos n
    rw [f_X11_kinds_48, f_X13_kinds_49, x8_all h2, x13_all h2, bd_s, bd_s]
    by_cases q : 2 ^ n - 1 < r
    · have z := (nI_ltI (a := 2 ^ n - 1) (b := r) (by omega) (by omega)).mpr q
      rw [if_pos z, if_pos z]
      exact ⟨S, rfl, rfl⟩
    · have z : ¬ nI (2 ^ n - 1) < nI r := fun z => q ((nI_ltI (by omega) (by omega)).mp z)
      have hr2 : r < 2 ^ n := by omega
      have go0 : ∃ S' : Int32, f_X11_kinds_48 f (nI n) (nI x) cl' (S + 0) (nI (r + 1)) t w = some (S', 0) ∧ f_X13_kinds_49 g (nI n) (nI x) cl' (S + 0) (nI (r + 1)) a b d = some (S', a, 0, -1) := q_kinds_l h1 h2 hx cl' t w a b d f g (r + 1) (S + 0) (by omega) (by omega) (by omega)
      have go1 : ∃ S' : Int32, f_X11_kinds_48 f (nI n) (nI x) cl' (S + 1) (nI (r + 1)) t w = some (S', 0) ∧ f_X13_kinds_49 g (nI n) (nI x) cl' (S + 1) (nI (r + 1)) a b d = some (S', a, 0, -1) := q_kinds_l h1 h2 hx cl' t w a b d f g (r + 1) (S + 1) (by omega) (by omega) (by omega)
      have lA := rLA_lt (n := n) (x := x) hr2 4
      have both : ∃ S' : Int32, f_X11_kinds_70 (fun x1 x2 x3 x4 x5 y z => f_X11_kinds_48 f x1 x2 x3 x4 x5 y z) (nI n) (nI x) cl' S (nI r) t w = some (S', 0) ∧ f_X13_kinds_74 (fun x1 x2 x3 x4 x5 y z u => f_X13_kinds_49 g x1 x2 x3 x4 x5 y z u) (nI n) (nI x) cl' (nI r) S a b d = some (S', a, 0, -1) := by
        by_cases e : rLA n r x 4 = r
        · simp only [f_X11_kinds_70, f_X11_kinds_75, i10, if_false, f_X13_kinds_74, x8_isLeast h1 h2 hr2 hx, x13_leastAlike h1 h2 hr2 hx, bd_s, e, if_true, f_X11_kinds_99, f_X13_kinds_91, lt_q, nI_1]
          exact go1
        · have e' : ¬ nI (rLA n r x 4) = nI r := fun z => e ((nI_eq (by omega) (by omega)).mp z)
          simp only [f_X11_kinds_70, f_X11_kinds_75, i10, if_false, f_X13_kinds_74, x8_isLeast h1 h2 hr2 hx, x13_leastAlike h1 h2 hr2 hx, bd_s, e, e', if_true, f_X11_kinds_98, f_X13_kinds_90, f_X11_kinds_99, f_X13_kinds_91, lt_q, nI_1]
          exact go0
      rw [if_neg z, if_neg z]
      by_cases y : cl' = 0
      · rw [if_pos y, if_pos y]; exact both
      · rw [if_neg y, if_neg y, x8_closes h1 h2 hr2, x13_repeats h1 h2 hr2, bd_s, bd_s]
        have lR := rRep_le (n := n) (r := r) h2
        by_cases e : rRep n r = n
        · rw [if_pos e, if_neg (by decide), if_pos (by rw [e])]; exact both
        · rw [if_neg e, if_pos rfl, if_neg (fun z => e ((nI_eq (by omega) (by omega)).mp z))]
          simp only [f_X11_kinds_75, if_true, f_X11_kinds_98, f_X13_kinds_90, f_X11_kinds_99, f_X13_kinds_91, lt_q, nI_1]
          exact go0
theorem q_kinds (p w cl' t a b d : Int32) : ∃ x y : Int32, y ≠ 4 ∧ f_X11_kinds p w cl' t 1 = some (x, y) ∧ f_X13_kinds p w cl' a b d = some (x, 0, y, -1) := by
  rcases q_in 1 12 1 12 13 rfl rfl rfl (by omega) (by omega) p with ⟨n, h1, h2, rfl, g1, g2, -, -, -, e7⟩ | ⟨g, e7⟩
  · rcases q_how w with ⟨x, hx, rfl, e8, e9⟩ | ⟨e8, e9⟩
    · have l := p4096 h2
      obtain ⟨S', r1, r2⟩ := q_kinds_l h1 h2 hx cl' t 1 0 b d kFU kFU 0 0 (Nat.zero_le _) (by unfold kFU; omega) (by unfold kFU; omega)
      refine ⟨S', 0, by decide, ?_, ?_⟩
      · simp only [f_X11_kinds, i10, g1, g2, if_false, e8, bd_s, if_true]
        exact r1
      · simp only [f_X13_kinds, e7, e9, bd_s, i10, if_false]
        exact r2
    · refine ⟨-1, 2, by decide, ?_, ?_⟩
      · simp only [f_X11_kinds, i10, g1, g2, if_false, e8, bd_s, f_X11_kinds_35, f_X11_refused]
      · simp only [f_X13_kinds, e7, e9, bd_s, i10, if_false, if_true, f_X13_kinds_37, f_X13_refused]
  · refine ⟨-1, 2, by decide, ?_, ?_⟩
    · rcases g with g | ⟨g, g', -, -, -⟩
      · simp only [f_X11_kinds, i10, g, if_false, if_true, f_X11_kinds_35, bd_s, f_X11_refused]
      · simp only [f_X11_kinds, i10, g, g', if_false, if_true, f_X11_kinds_35, bd_s, f_X11_refused]
    · simp only [f_X13_kinds, e7, bd_s, if_true, f_X13_kinds_37, f_X13_refused]
/-! THE FEWEST SLIPS -/
def rDi (n r s z : Nat) : Nat → Nat
  | 0 => z
  | i + 1 => Nat.min (rDi n r s z i) (rP (Nat.xor r (rTi n s i)))
def rDa (n r t x z : Nat) : Nat → Nat
  | 0 => z
  | a + 1 => if rSub a x = 0 then rDa n r t x z a else rDi n r (rL n t a) (rDa n r t x z a) n
theorem rDi_min (n r s c z : Nat) : ∀ i, rDi n r s (Nat.min c z) i = Nat.min c (rDi n r s z i)
  | 0 => rfl
  | i + 1 => by
    show Nat.min (rDi n r s (Nat.min c z) i) (rP (Nat.xor r (rTi n s i))) = Nat.min c (Nat.min (rDi n r s z i) (rP (Nat.xor r (rTi n s i))))
    rw [rDi_min n r s c z i]
    exact Nat.min_assoc _ _ _
theorem rDa_min (n r t x c z : Nat) : ∀ a, rDa n r t x (Nat.min c z) a = Nat.min c (rDa n r t x z a)
  | 0 => rfl
  | a + 1 => by
    rw [rDa, rDa]
    split
    · exact rDa_min n r t x c z a
    · rw [rDa_min n r t x c z a, rDi_min]
theorem rDi_le (n r s z : Nat) : ∀ i, rDi n r s z i ≤ z
  | 0 => Nat.le_refl _
  | i + 1 => Nat.le_trans (Nat.min_le_left _ _) (rDi_le n r s z i)
theorem rDi_at (n r s z : Nat) : ∀ i, rDi n r s z (i + 1) ≤ rP (Nat.xor r s)
  | 0 => Nat.min_le_right _ _
  | i + 1 => Nat.le_trans (Nat.min_le_left _ _) (rDi_at n r s z i)
theorem rDa_mono (n r t x z : Nat) : ∀ a d, rDa n r t x z (a + d) ≤ rDa n r t x z a
  | _, 0 => Nat.le_refl _
  | a, d + 1 => by
    refine Nat.le_trans ?_ (rDa_mono n r t x z a d)
    show rDa n r t x z (a + d + 1) ≤ _
    rw [rDa]
    split
    · exact Nat.le_refl _
    · exact rDi_le _ _ _ _ _
theorem rP_n {n r : Nat} (h1 : 1 ≤ n) (h2 : n ≤ 12) (hr : r < 2 ^ n) : rP r ≤ n := of_decide_eq_true (allR_at (p := fun n r => decide (rP r ≤ n)) (by decide +kernel) h1 h2 hr)
theorem rDa_n {n r t x : Nat} (h1 : 1 ≤ n) (h2 : n ≤ 12) (hr : r < 2 ^ n) (ht : t < 2 ^ n) (hx : x < 4) : rDa n r t x n 4 = rDa n r t x 99999 4 := by
  have e : rDa n r t x n 4 = Nat.min n (rDa n r t x 99999 4) := by rw [← rDa_min, show Nat.min n 99999 = n from Nat.min_eq_left (by omega)]
  have m := rDa_mono n r t x 99999 1 3
  have o : rDa n r t x 99999 1 ≤ rP (Nat.xor r t) := by
    rw [rDa, if_neg (by rw [show rSub 0 x = 1 by unfold rSub; rw [if_pos (show Nat.land 0 x = 0 from Nat.zero_and x)]]; decide), show n = n - 1 + 1 by omega]
    exact rDi_at _ _ _ _ _
  have k := rP_n h1 h2 (rx_lt hr ht)
  rw [e]
  exact Nat.min_eq_right (Nat.le_trans m (Nat.le_trans o k))
theorem x8_fewest_24 {n r t x a z : Nat} {k6 : Int32 → Int32 → Int32 → Int32 → Int32 → Int32 → Option Int32} {T : Int32} (h1 : 1 ≤ n) (h2 : n ≤ 12) (hr : r < 2 ^ n) (ht : t < 2 ^ n) (hx : x < 4) (ha : a < 4) (hs : rSub a x = 1) (hz : z ≤ 99999) : ∀ (f i : Nat), i ≤ n → n - i < f →
    f_X8_fewestSlips_24 k6 f (nI r) T (nI n) (nI x) (nI (rDi n r (rL n t a) z i)) (nI a) (nI (rTi n (rL n t a) i)) (nI i) = k6 (nI r) T (nI n) (nI x) (nI (rDi n r (rL n t a) z n)) (nI (a + 1))
  | 0, _, _, h => absurd h (Nat.not_lt_zero _)
  | f + 1, i, hi, hf => by
    have lt := rTi_lt h1 h2 (rL_lt (a := a) h1 h2 ht) i
    have lz := rDi_le n r (rL n t a) z i
    have lp : rP (Nat.xor r (rTi n (rL n t a) i)) ≤ 12 := rPc_le 12 _
    rw [f_X8_fewestSlips_24]
    by_cases q : n ≤ i
    · rw [if_pos ((nI_leI (by omega) (by omega)).mpr q), f_X8_fewestSlips_67, nI_1, show i = n by omega]
    · rw [if_neg (fun z => q ((nI_leI (by omega) (by omega)).mp z)), x8_allows hx ha, bd_s, hs, if_neg (by decide), nI_xor, j6_bitCount (r4096 h2 (rx_lt hr lt)), bd_s, lt_q, i32_min (by omega) (by omega), x8_turned h1 h2 lt, bd_s, nI_1]
      exact x8_fewest_24 h1 h2 hr ht hx ha hs hz f (i + 1) (by omega) (by omega)
theorem rDa_le {n r t x z : Nat} : ∀ a, rDa n r t x z a ≤ z := fun a => by
  have := rDa_mono n r t x z 0 a
  rw [Nat.zero_add] at this
  exact this
theorem x8_fewest_6 {n r t x : Nat} (h1 : 1 ≤ n) (h2 : n ≤ 12) (hr : r < 2 ^ n) (ht : t < 2 ^ n) (hx : x < 4) : ∀ (f a : Nat), a ≤ 4 → 4 - a < f →
    f_X8_fewestSlips_6 f (nI r) (nI t) (nI n) (nI x) (nI (rDa n r t x n a)) (nI a) = some (nI (rDa n r t x n 4))
  | 0, _, _, h => absurd h (Nat.not_lt_zero _)
  | f + 1, a, ha, hf => by
    have lz := rDa_le (n := n) (r := r) (t := t) (x := x) (z := n) a
    rw [f_X8_fewestSlips_6]
    by_cases q : 3 < a
    · rw [if_pos (show (3 : Int32) < nI a from (nI_ltI (a := 3) (by omega) (by omega)).mpr q), show a = 4 by omega]
    · have ha4 : a < 4 := by omega
      have IH := x8_fewest_6 h1 h2 hr ht hx f (a + 1) (by omega) (by omega)
      rw [if_neg (show ¬ (3 : Int32) < nI a from fun z => q ((nI_ltI (a := 3) (by omega) (by omega)).mp z)), x8_inWay h1 h2 ht ha4, bd_s]
      rcases rSub_01 a x with e | e
      · rw [rDa, if_pos e] at IH
        rw [show kFU = 99999 + 1 from rfl, f_X8_fewestSlips_24, if_neg (show ¬ nI n ≤ 0 from nI_nle h1 (by omega)), x8_allows hx ha4, bd_s, e, if_pos nI_0, f_X8_fewestSlips_67, nI_1]
        exact IH
      · rw [rDa, if_neg (by omega)] at IH
        refine Eq.trans (x8_fewest_24 (T := nI t) h1 h2 hr ht hx ha4 e (show rDa n r t x n a ≤ 99999 by omega) kFU 0 (Nat.zero_le _) (by unfold kFU; omega)) ?_
        exact IH
theorem x8_fewest {n r t x : Nat} (h1 : 1 ≤ n) (h2 : n ≤ 12) (hr : r < 2 ^ n) (ht : t < 2 ^ n) (hx : x < 4) : f_X8_fewestSlips (nI r) (nI t) (nI n) (nI x) = some (nI (rDa n r t x n 4)) :=
  x8_fewest_6 h1 h2 hr ht hx kFU 0 (Nat.zero_le _) (by unfold kFU; omega)
theorem x13_slips_112 {n r t a z : Nat} {p q X : Int32} {V : Nat → Int32} {b1 b2 b3 C : Int32} {k77 : Int32 → Int32 → Int32 → Int32 → Int32 → Int32 → Int32 → Int32 → Int32 → Int32 → (Nat → Int32) → Option (Int32 × Int32 × Int32 × Int32)} (h1 : 1 ≤ n) (h2 : n ≤ 12) (hr : r < 2 ^ n) (ht : t < 2 ^ n) (e5 : f_X13_row p V = some (nI r)) (hz : z ≤ 99999) : ∀ (f i : Nat), i ≤ n → n - i < f →
    f_X13_slips_112 k77 f p q X (nI n) (nI (rDi n r (rL n t a) z i)) (nI a) (nI (rTi n (rL n t a) i)) (nI i) b1 b2 b3 C V = k77 p q X (nI n) (nI (rDi n r (rL n t a) z n)) (nI (a + 1)) b1 b2 b3 C V
  | 0, _, _, h => absurd h (Nat.not_lt_zero _)
  | f + 1, i, hi, hf => by
    have lt := rTi_lt h1 h2 (rL_lt (a := a) h1 h2 ht) i
    have lz := rDi_le n r (rL n t a) z i
    have lp : rP (Nat.xor r (rTi n (rL n t a) i)) ≤ 12 := rPc_le 12 _
    have xc : Nat.xor (rTi n (rL n t a) i) r = Nat.xor r (rTi n (rL n t a) i) := Nat.xor_comm _ _
    rw [f_X13_slips_112]
    by_cases y : n ≤ i
    · rw [if_pos ((nI_leI (by omega) (by omega)).mpr y), f_X13_slips_163, nI_1, show i = n by omega]
    · have IH := x13_slips_112 (a := a) (z := z) (q := q) (X := X) (b1 := b1) (b2 := b2) (b3 := b3) (C := C) (k77 := k77) h1 h2 hr ht e5 hz f (i + 1) (by omega) (by omega)
      have b := x13_bits (r4096 h2 (rx_lt hr lt))
      rw [if_neg (fun z => y ((nI_leI (by omega) (by omega)).mp z)), e5, bd_s, bd_s, nI_xor, xc, b, bd_s]
      by_cases v : rDi n r (rL n t a) z i ≤ rP (Nat.xor r (rTi n (rL n t a) i))
      · rw [if_pos ((nI_leI (by omega) (by omega)).mpr v), f_X13_slips_148, x13_turned h1 h2 lt, bd_s, nI_1]
        rw [show rDi n r (rL n t a) z (i + 1) = rDi n r (rL n t a) z i from Nat.min_eq_left v] at IH
        exact IH
      · rw [if_neg (fun z => v ((nI_leI (by omega) (by omega)).mp z)), bd_s, f_X13_slips_148, x13_turned h1 h2 lt, bd_s, nI_1]
        rw [show rDi n r (rL n t a) z (i + 1) = rP (Nat.xor r (rTi n (rL n t a) i)) from Nat.min_eq_right (by omega)] at IH
        exact IH
theorem x13_slips_77 {n r t x : Nat} {p q : Int32} {V : Nat → Int32} {b1 b2 b3 C : Int32} (h1 : 1 ≤ n) (h2 : n ≤ 12) (hr : r < 2 ^ n) (ht : t < 2 ^ n) (hx : x < 4) (e5 : f_X13_row p V = some (nI r)) (k5 : f_X13_row q V = some (nI t)) : ∀ (f a : Nat), a ≤ 4 → 4 - a < f →
    f_X13_slips_77 f p q (nI x) (nI n) (nI (rDa n r t x 99999 a)) (nI a) b1 b2 b3 C V = some (nI (rDa n r t x 99999 4), b1, 0, -1)
  | 0, _, _, h => absurd h (Nat.not_lt_zero _)
  | f + 1, a, ha, hf => by
    rw [f_X13_slips_77]
    by_cases y : 4 ≤ a
    · rw [if_pos (show (4 : Int32) ≤ nI a from (nI_leI (a := 4) (by omega) (by omega)).mpr y), show a = 4 by omega]; rfl
    · have ha4 : a < 4 := by omega
      have IH := x13_slips_77 (b1 := b1) (b2 := b2) (b3 := b3) (C := C) h1 h2 hr ht hx e5 k5 f (a + 1) (by omega) (by omega)
      rw [if_neg (show ¬ (4 : Int32) ≤ nI a from fun z => y ((nI_leI (a := 4) (by omega) (by omega)).mp z)), x13_isLook hx ha4, bd_s]
      rcases rSub_01 a x with e | e
      · rw [rDa, if_pos e] at IH
        rw [e, if_pos nI_0, f_X13_slips_163, nI_1]
        exact IH
      · rw [rDa, if_neg (by omega)] at IH
        rw [e, if_neg (by decide), k5, bd_s, x13_looked h1 h2 ht ha4, bd_s]
        refine Eq.trans (x13_slips_112 (q := q) (X := nI x) h1 h2 hr ht e5 (rDa_le a) kFU 0 (Nat.zero_le _) (by unfold kFU; omega)) ?_
        exact IH
theorem q_slips {c : Nat} {L R V : Nat → Int32} (h : SV c L R V) (p q w t a b d : Int32) : ∃ x y : Int32, y ≠ 4 ∧ f_X11_slips p q w t (nI c) L R = some (x, y) ∧ f_X13_slips p q w a b d (nI c) V = some (x, 0, y, -1) := by
  rcases q_sv h p with ⟨s, n, r, hs, hs5, h1, h2, hr, -, -, -, e1, e2, e3, e4, e5, e6⟩ | ⟨e1, e2⟩
  · rcases q_sv h q with ⟨s', n', r', hs', hs5', h1', h2', hr', -, -, -, k1, k2, k3, k4, k5, k6⟩ | ⟨k1, k2⟩
    · rcases q_how w with ⟨x, hx, rfl, e7, e8⟩ | ⟨e7, e8⟩
      · by_cases e : n = n'
        · subst e
          have g1 : 1 ≤ n := by omega
          refine ⟨nI (rDa n r r' x n 4), 0, by decide, ?_, ?_⟩
          · simp only [f_X11_slips, e1, e3, e4, k1, k3, k4, e7, bd_s, if_true, x8_fewest g1 h2 hr hr' hx, f_X11_granted]
          · have o := x13_slips_77 (b1 := 0) (b2 := b) (b3 := d) (C := nI c) g1 h2 hr hr' hx e5 k5 kFU 0 (Nat.zero_le _) (by unfold kFU; omega)
            rw [← rDa_n g1 h2 hr hr' hx] at o
            simp only [f_X13_slips, e2, e6, k2, k6, e8, bd_s, i10, if_true, if_false]
            exact o
        · have z : ¬ nI n = nI n' := fun z => e ((nI_eq (by omega) (by omega)).mp z)
          exact ⟨-2, 0, by decide, by simp only [f_X11_slips, e1, e4, k1, k4, e7, bd_s, if_true, z, if_false, f_X11_granted], by simp only [f_X13_slips, e2, e6, k2, k6, e8, bd_s, i10, if_false, z, f_X13_good]⟩
      · refine ⟨-1, 2, by decide, ?_, ?_⟩
        · simp only [f_X11_slips, e1, k1, e7, bd_s, i10, if_true, if_false, f_X11_refused]
        · simp only [f_X13_slips, e2, k2, e8, bd_s, i10, if_true, if_false, f_X13_refused]
    · refine ⟨-1, 1, by decide, ?_, ?_⟩
      · simp only [f_X11_slips, e1, k1, bd_s, i10, if_true, if_false, f_X11_slips_16, f_X11_refused]
      · simp only [f_X13_slips, e2, k2, bd_s, i10, if_true, if_false, f_X13_slips_21, f_X13_refused]
  · refine ⟨-1, 1, by decide, ?_, ?_⟩
    · simp only [f_X11_slips, e1, bd_s, i10, if_false, f_X11_slips_16, f_X11_refused]
    · simp only [f_X13_slips, e2, bd_s, if_true, f_X13_slips_21, f_X13_refused]
