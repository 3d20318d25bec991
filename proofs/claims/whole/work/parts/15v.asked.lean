/-! WHAT A TOKEN IS, AND WHAT IS ASKED OF IT -/
def cod (j : Nat) : Int64 := (f_X7_codeOf j).getD 0
theorem cod_all {j : Nat} (hj : j < 8) : f_X7_codeOf j = some (cod j) ∧ f_X13_packed (8 + j) = some (cod j) := of_decide_eq_true (allB_at (N := 8) (p := fun j => decide (f_X7_codeOf j = some (cod j) ∧ f_X13_packed (8 + j) = some (cod j))) (by decide +kernel) j hj)
theorem isW {tb : Nat → Int32} {n B : Nat} {C : Int32 × Int32 × Int32 × Int32 × Int32 × Int64} {M : Int32 × Int32 × Int32 × Int32 × Int32 × Int32 × Int32 × Int64} {q : Nat} (k : TK tb B n C M q) {j j' : Nat} (hj : j < 8) (e : j' = 8 + j) : (f_X7_isWord j C.1 C.2.2.2.2.2 = some 1 ∧ f_X13_isWord j' M.2.2.2.2.2.1 M.2.2.2.2.2.2.2 = some 1 ∧ C.1 = 1) ∨ (f_X7_isWord j C.1 C.2.2.2.2.2 = some 0 ∧ f_X13_isWord j' M.2.2.2.2.2.1 M.2.2.2.2.2.2.2 = some 0) := by
  obtain ⟨w1, w2⟩ := cod_all hj
  have no : ¬ C.1 = 1 → ¬ M.2.2.2.2.2.1 = 2 → f_X7_isWord j C.1 C.2.2.2.2.2 = some 0 ∧ f_X13_isWord j' M.2.2.2.2.2.1 M.2.2.2.2.2.2.2 = some 0 := fun a b => by
    rw [f_X7_isWord, if_neg a, f_X13_isWord, if_neg b]; exact ⟨rfl, rfl⟩
  obtain ⟨p, cp, mp, o⟩ := k
  rcases o with ⟨c, m⟩ | ⟨-, -, -, -, ⟨c, m⟩ | ⟨-, ⟨c, m, -, -, -, cw, -⟩ | ⟨c, m, -⟩ | ⟨c, m, -⟩⟩⟩
  · exact Or.inr (no (by rw [c]; decide) (by rw [m]; decide))
  · exact Or.inr (no (by rw [c]; decide) (by rw [m]; decide))
  · subst e
    by_cases z : lg_cmp C.2.2.2.2.2 (cod j) = 0
    · refine Or.inl ⟨?_, ?_, c⟩
      · rw [f_X7_isWord, if_pos c, w1, bd_s, if_pos z]
      · rw [f_X13_isWord, if_pos m, w2, bd_s, ← cw, if_pos z]
    · refine Or.inr ⟨?_, ?_⟩
      · rw [f_X7_isWord, if_pos c, w1, bd_s, if_neg z]
      · rw [f_X13_isWord, if_pos m, w2, bd_s, ← cw, if_neg z]
  · exact Or.inr (no (by rw [c]; decide) (by rw [m]; decide))
  · exact Or.inr (no (by rw [c]; decide) (by rw [m]; decide))
theorem isNm {tb : Nat → Int32} {n B : Nat} {C : Int32 × Int32 × Int32 × Int32 × Int32 × Int64} {M : Int32 × Int32 × Int32 × Int32 × Int32 × Int32 × Int32 × Int64} {q : Nat} (k : TK tb B n C M q) : (f_X7_isName C.1 C.2.1 C.2.2.2.2.2 = some 1 ∧ f_X13_isName M.2.1 M.2.2.2.2.2.1 M.2.2.2.2.2.2.2 = some 1 ∧ C.1 = 1) ∨ (f_X7_isName C.1 C.2.1 C.2.2.2.2.2 = some 0 ∧ f_X13_isName M.2.1 M.2.2.2.2.2.1 M.2.2.2.2.2.2.2 = some 0) := by
  have a0 := isW k (j := 0) (j' := 8) (by decide) rfl
  have a1 := isW k (j := 1) (j' := 9) (by decide) rfl
  have a2 := isW k (j := 2) (j' := 10) (by decide) rfl
  have a3 := isW k (j := 3) (j' := 11) (by decide) rfl
  have no : ¬ C.1 = 1 → ¬ M.2.2.2.2.2.1 = 2 → f_X7_isName C.1 C.2.1 C.2.2.2.2.2 = some 0 ∧ f_X13_isName M.2.1 M.2.2.2.2.2.1 M.2.2.2.2.2.2.2 = some 0 := fun a b => by
    have z : ∀ s, f_X7_isName_41 s C.1 C.2.1 C.2.2.2.2.2 = some 0 := fun s => by rw [f_X7_isName_41, if_neg a]
    have w : ∀ j, f_X7_isWord j C.1 C.2.2.2.2.2 = some 0 := fun j => by rw [f_X7_isWord, if_neg a]
    rw [f_X7_isName, w, bd_s, if_pos z00, w, bd_s, if_pos z00, w, bd_s, if_pos z00, w, bd_s, if_pos z00, z, f_X13_isName, if_neg b]
    exact ⟨rfl, rfl⟩
  obtain ⟨p, cp, mp, o⟩ := k
  rcases o with ⟨c, m⟩ | ⟨-, -, -, -, ⟨c, m⟩ | ⟨-, ⟨c, m, -, cl, ml, -⟩ | ⟨c, m, -⟩ | ⟨c, m, -⟩⟩⟩
  · exact Or.inr (no (by rw [c]; decide) (by rw [m]; decide))
  · exact Or.inr (no (by rw [c]; decide) (by rw [m]; decide))
  · have l : M.2.1 = C.2.1 := ml.trans cl.symm
    have y : f_X7_isName_36 C.1 C.2.1 C.2.2.2.2.2 = some 0 := by
      rw [f_X7_isName_36, f_X7_isName_41, if_pos c]
      by_cases z : (8 : Int32) < C.2.1
      · rw [if_pos z]
      · rw [if_neg z, if_neg n10]
    by_cases z : (8 : Int32) < C.2.1
    · refine Or.inr ⟨?_, by rw [f_X13_isName, if_pos m, l, if_pos z]⟩
      have x : f_X7_isName_41 0 C.1 C.2.1 C.2.2.2.2.2 = some 0 := by rw [f_X7_isName_41, if_pos c, if_pos z]
      rw [f_X7_isName]
      rcases a0 with ⟨h, -, -⟩ | ⟨h, -⟩
      · rw [h, bd_s, if_neg n10, y]
      · rw [h, bd_s, if_pos z00]
        rcases a1 with ⟨h, -, -⟩ | ⟨h, -⟩
        · rw [h, bd_s, if_neg n10, y]
        · rw [h, bd_s, if_pos z00]
          rcases a2 with ⟨h, -, -⟩ | ⟨h, -⟩
          · rw [h, bd_s, if_neg n10, y]
          · rw [h, bd_s, if_pos z00]
            rcases a3 with ⟨h, -, -⟩ | ⟨h, -⟩
            · rw [h, bd_s, if_neg n10, y]
            · rw [h, bd_s, if_pos z00, x]
    · have x : f_X7_isName_41 0 C.1 C.2.1 C.2.2.2.2.2 = some 1 := by rw [f_X7_isName_41, if_pos c, if_neg z, if_pos z00]
      rw [f_X7_isName, f_X13_isName, if_pos m, l, if_neg z]
      rcases a0 with ⟨h, h', -⟩ | ⟨h, h'⟩
      · rw [h, bd_s, if_neg n10, y, h', bd_s, if_neg n10]; exact Or.inr ⟨rfl, rfl⟩
      · rw [h, bd_s, if_pos z00, h', bd_s, if_pos z00]
        rcases a1 with ⟨h, h', -⟩ | ⟨h, h'⟩
        · rw [h, bd_s, if_neg n10, y, h', bd_s, if_neg n10]; exact Or.inr ⟨rfl, rfl⟩
        · rw [h, bd_s, if_pos z00, h', bd_s, if_pos z00]
          rcases a2 with ⟨h, h', -⟩ | ⟨h, h'⟩
          · rw [h, bd_s, if_neg n10, y, h', bd_s, if_neg n10]; exact Or.inr ⟨rfl, rfl⟩
          · rw [h, bd_s, if_pos z00, h', bd_s, if_pos z00]
            rcases a3 with ⟨h, h', -⟩ | ⟨h, h'⟩
            · rw [h, bd_s, if_neg n10, y, h', bd_s, if_neg n10]; exact Or.inr ⟨rfl, rfl⟩
            · rw [h, bd_s, if_pos z00, x, h', bd_s, if_pos z00]; exact Or.inl ⟨rfl, rfl, c⟩
  · exact Or.inr (no (by rw [c]; decide) (by rw [m]; decide))
  · exact Or.inr (no (by rw [c]; decide) (by rw [m]; decide))
/-! names -/
theorem q_find_l {c : Nat} {nm nm' : Nat → Int64} (hc : c ≤ 5) (h : ∀ s, s < c → nm s = nm' s) (w : Int64) : ∀ (f k : Nat), k ≤ c → c - k < f → (∃ s, s < c ∧ f_X4_stackNamed_2 f w (nI k) (nI c) nm = some (nI s) ∧ f_X12_find_2 f w (nI k) (nI c) nm' = some (nI s)) ∨ (f_X4_stackNamed_2 f w (nI k) (nI c) nm = some (-1) ∧ f_X12_find_2 f w (nI k) (nI c) nm' = some (-1))
  | 0, _, _, h => absurd h (Nat.not_lt_zero _)
  | f + 1, k, hk, hf => by
    rw [f_X4_stackNamed_2, f_X12_find_2]
    by_cases e : c ≤ k
    · rw [if_pos (nI_le e (by omega)), if_pos (nI_le e (by omega))]
      exact Or.inr ⟨rfl, rfl⟩
    · rw [if_neg (nI_ge (by omega) (by omega)), if_neg (nI_ge (by omega) (by omega)), if_neg (show ¬ (5 : Int32) ≤ nI k from nI_ge (b := 5) (by omega) (by omega)), gd_t _ (nI_in (by omega) (by omega)), gd_t _ (nI_in (by omega) (by omega)), nI_clamp (by omega), ← h k (by omega)]
      by_cases z : lg_cmp (nm k) w = 0
      · rw [if_pos z, if_pos z]
        exact Or.inl ⟨k, by omega, rfl, rfl⟩
      · rw [if_neg z, if_neg z, nI_1]
        exact q_find_l hc h w f (k + 1) (by omega) (by omega)
theorem q_find {c : Nat} {nm nm' : Nat → Int64} (hc : c ≤ 5) (h : ∀ s, s < c → nm s = nm' s) (w : Int64) : (∃ s, s < c ∧ f_X4_stackNamed w (nI c) nm = some (nI s) ∧ f_X12_find w (nI c) nm' = some (nI s)) ∨ (f_X4_stackNamed w (nI c) nm = some (-1) ∧ f_X12_find w (nI c) nm' = some (-1)) := q_find_l hc h w kFU 0 (Nat.zero_le _) (by unfold kFU; omega)
theorem find_some {c : Nat} (hc : c ≤ 5) (nm : Nat → Int64) (w : Int64) : ∃ x, f_X12_find w (nI c) nm = some x := by
  rcases q_find hc (fun _ _ => rfl : ∀ s, s < c → nm s = nm s) w with ⟨s, -, -, h⟩ | ⟨-, h⟩
  · exact ⟨_, h⟩
  · exact ⟨_, h⟩
/-! once a flaw is found, the reference only goes on -/
theorem go5 {r l nn p b N s sp : Int32} {wd : Int64} {mt : Nat → Int32} (hs : s = 5) : f_X13_goesOn r l nn p b N s sp wd mt = some (r, l, nn, p, b, s, sp, wd) := by rw [f_X13_goesOn, if_pos hs]
theorem fl5 {a f p s w : Int32} (hs : s = 5) : f_X13_flaw a f p s w = some (f, s, w) := by rw [f_X13_flaw, if_pos hs]
theorem flN {a f p s w : Int32} (hs : ¬ s = 5) : f_X13_flaw a f p s w = some (a, 5, p) := by rw [f_X13_flaw, if_neg hs]
theorem wd5 {j : Nat} {s : Int32} {wd : Int64} (hs : s = 5) : f_X13_isWord j s wd = some 0 := by rw [f_X13_isWord, if_neg (by rw [hs]; decide)]
theorem nm5 {l s : Int32} {wd : Int64} (hs : s = 5) : f_X13_isName l s wd = some 0 := by rw [f_X13_isName, if_neg (by rw [hs]; decide)]
theorem nd5 {j : Nat} {f r l nn p b N s sp w : Int32} {wd : Int64} {mt : Nat → Int32} (hs : s = 5) : f_X13_needs j f r l nn p b N s sp wd w mt = some (f, r, l, nn, p, b, s, sp, wd, w) := by
  rw [f_X13_needs, wd5 hs, bd_s, if_pos z00, fl5 hs, bd_s, f_X13_needs_13, go5 hs, bd_s]
theorem wa5 {a b f nn p s w : Int32} (hs : s = 5) : f_X13_wholeAt a b f nn p s w = some (a, f, s, w) := by
  rw [f_X13_wholeAt, if_neg (by rw [hs]; decide), fl5 hs, bd_s, f_X13_wholeAt_33, if_pos hs]
theorem rw5 {a a' f r l nn p b N s sp w : Int32} {wd : Int64} {mt : Nat → Int32} (hs : s = 5) : f_X13_readWhole a a' f r l nn p b N s sp wd w mt = some (a, f, r, l, nn, p, b, s, sp, wd, w) := by
  rw [f_X13_readWhole, wa5 hs, bd_s, go5 hs, bd_s]
theorem ea5 {a r l nn p b N s sp : Int32} {wd : Int64} {mt : Nat → Int32} (hs : s = 5) : f_X13_eats a r l nn p b N s sp wd mt = some (0, r, l, nn, p, b, s, sp, wd) := by
  rw [f_X13_eats, if_neg (by rw [hs]; decide), f_X13_eats_20, f_X13_eats_21, if_pos z00, gd_t _ (Or.inl rfl)]
theorem rn5 {j : Nat} {f r l nn p b N s sp w : Int32} {wd : Int64} {mt : Nat → Int32} (hs : s = 5) : f_X13_readNumber j f r l nn p b N s sp wd w mt = some (0, f, r, l, nn, p, b, s, sp, wd, w) := by
  rw [f_X13_readNumber, nd5 hs, bd_s]; dsimp only
  rw [ea5 hs, bd_s]; dsimp only
  rw [rw5 hs, bd_s, if_pos z00]
theorem lb5 {a a' f r l nn p b N s sp w td : Int32} {wd : Int64} {mt : Nat → Int32} (hs : s = 5) : f_X13_lineBegins a a' f r l nn p b N s sp wd w td mt = some (f, r, l, nn, p, b, s, sp, wd, w) := by
  have t10 : f_X13_lineBegins_10 f r l nn p b N s sp wd w td mt = some (f, r, l, nn, p, b, s, sp, wd, w) := by
    rw [f_X13_lineBegins_10]
    by_cases z : td = 0
    · rw [if_pos z, fl5 hs, bd_s, f_X13_lineBegins_26, go5 hs, bd_s]
    · rw [if_neg z, f_X13_lineBegins_26, go5 hs, bd_s]
  rw [f_X13_lineBegins]
  by_cases z : a = a'
  · rw [if_pos z, fl5 hs, bd_s]; exact t10
  · rw [if_neg z]; exact t10
theorem rs34 {x f r l nn p b N s sp w c : Int32} {wd : Int64} {nm : Nat → Int64} {mt : Nat → Int32} (hs : s = 5) : f_X13_readStack_34 x f r l nn p b N s sp wd w c nm mt = some (0, f, r, l, nn, p, b, s, sp, wd, w) := by
  rw [f_X13_readStack_34, if_pos hs, f_X13_readStack_44, go5 hs, bd_s]
theorem rs12 {f r l nn p b N s sp w : Int32} {c : Nat} (hc : c ≤ 5) {wd : Int64} {nm : Nat → Int64} {mt : Nat → Int32} (hs : s = 5) : f_X13_readStack_12 f r l nn p b N s sp wd w (nI c) nm mt = some (0, f, r, l, nn, p, b, s, sp, wd, w) := by
  obtain ⟨x, hx⟩ := find_some hc nm wd
  rw [f_X13_readStack_12, hx, bd_s]
  by_cases z : x = -1
  · rw [if_pos z, fl5 hs, bd_s]; exact rs34 hs
  · rw [if_neg z]; exact rs34 hs
theorem rs5 {f r l nn p b N s sp w : Int32} {c : Nat} (hc : c ≤ 5) {wd : Int64} {nm : Nat → Int64} {mt : Nat → Int32} (hs : s = 5) : f_X13_readStack f r l nn p b N s sp wd w (nI c) nm mt = some (0, f, r, l, nn, p, b, s, sp, wd, w) := by
  rw [f_X13_readStack, nm5 hs, bd_s, if_pos z00, fl5 hs, bd_s]
  exact rs12 hc hs
/-! a word is needed -/
theorem q_needs {tb mt : Nat → Int32} {n B : Nat} (hn : n ≤ 500) (h : ∀ i, i < n → tb i = mt i) {C : Int32 × Int32 × Int32 × Int32 × Int32 × Int64} {M : Int32 × Int32 × Int32 × Int32 × Int32 × Int32 × Int32 × Int64} {q : Nat} (k : TK tb B n C M q) {j j' : Nat} (hj : j < 8) (e : j' = 8 + j) (w : Int32) :
    (∃ (C' : Int32 × Int32 × Int32 × Int32 × Int32 × Int64) (M' : Int32 × Int32 × Int32 × Int32 × Int32 × Int32 × Int32 × Int64) (q' : Nat), q ≤ q' ∧ f_X7_takesWord j (nI n) 0 C.1 C.2.1 C.2.2.1 C.2.2.2.1 C.2.2.2.2.1 C.2.2.2.2.2 tb = some (1, 0, C'.1, C'.2.1, C'.2.2.1, C'.2.2.2.1, C'.2.2.2.2.1, C'.2.2.2.2.2) ∧ f_X13_needs j' 0 M.1 M.2.1 M.2.2.1 M.2.2.2.1 M.2.2.2.2.1 (nI n) M.2.2.2.2.2.1 M.2.2.2.2.2.2.1 M.2.2.2.2.2.2.2 w mt = some (0, M'.1, M'.2.1, M'.2.2.1, M'.2.2.2.1, M'.2.2.2.2.1, M'.2.2.2.2.2.1, M'.2.2.2.2.2.2.1, M'.2.2.2.2.2.2.2, w) ∧ TK tb B n C' M' q') ∨
    (f_X7_takesWord j (nI n) 0 C.1 C.2.1 C.2.2.1 C.2.2.2.1 C.2.2.2.2.1 C.2.2.2.2.2 tb = some (0, 1, C.1, C.2.1, C.2.2.1, C.2.2.2.1, C.2.2.2.2.1, C.2.2.2.2.2) ∧ ∃ M' : Int32 × Int32 × Int32 × Int32 × Int32 × Int32 × Int32 × Int64, M'.2.2.2.2.2.1 = 5 ∧ f_X13_needs j' 0 M.1 M.2.1 M.2.2.1 M.2.2.2.1 M.2.2.2.2.1 (nI n) M.2.2.2.2.2.1 M.2.2.2.2.2.2.1 M.2.2.2.2.2.2.2 w mt = some (1, M'.1, M'.2.1, M'.2.2.1, M'.2.2.2.1, M'.2.2.2.2.1, M'.2.2.2.2.2.1, M'.2.2.2.2.2.2.1, M'.2.2.2.2.2.2.2, C.2.2.2.1)) := by
  obtain ⟨hs, hp⟩ := TK_s k
  rcases isW k hj e with ⟨w1, w2, c1⟩ | ⟨w1, w2⟩
  · obtain ⟨-, C', M', q', a1, a2, a3, a4⟩ := adv hn h k (by rw [c1]; decide)
    refine Or.inl ⟨C', M', q', a1, ?_, ?_, a4⟩
    · rw [f_X7_takesWord, w1, bd_s, if_neg n10, a2, bd_s]
    · rw [f_X13_needs, w2, bd_s, if_neg n10, f_X13_needs_13, a3, bd_s]
  · refine Or.inr ⟨?_, (M.1, M.2.1, M.2.2.1, M.2.2.2.1, M.2.2.2.2.1, 5, M.2.2.2.2.2.2.1, M.2.2.2.2.2.2.2), rfl, ?_⟩
    · rw [f_X7_takesWord, w1, bd_s, if_pos z00, f_X7_fails, bd_s, gd_t _ (Or.inl rfl)]
    · rw [f_X13_needs, w2, bd_s, if_pos z00, flN hs, bd_s, f_X13_needs_13, go5 rfl, bd_s, hp]
/-! a whole is needed -/
theorem q_wholeAt {tb : Nat → Int32} {n B : Nat} {C : Int32 × Int32 × Int32 × Int32 × Int32 × Int64} {M : Int32 × Int32 × Int32 × Int32 × Int32 × Int32 × Int32 × Int64} {q : Nat} (k : TK tb B n C M q) (lo hi : Nat) (P Q : Int32) (hP : P = nI lo) (hQ : Q = nI hi) (hl : lo ≤ hi) (hh : hi < 2 ^ 30) (w : Int32) :
    (∃ v : Nat, lo ≤ v ∧ v ≤ hi ∧ C.1 = 2 ∧ C.2.2.2.2.1 = nI v ∧ f_X7_isWholeWithin P Q 0 C.1 C.2.2.2.2.1 = some (1, 0) ∧ f_X13_wholeAt P Q 0 M.2.2.1 M.2.2.2.1 M.2.2.2.2.2.1 w = some (nI v, 0, M.2.2.2.2.2.1, w)) ∨
    (∃ F : Int32, 0 < F ∧ f_X7_isWholeWithin P Q 0 C.1 C.2.2.2.2.1 = some (0, F) ∧ f_X13_wholeAt P Q 0 M.2.2.1 M.2.2.2.1 M.2.2.2.2.2.1 w = some (P, F, 5, C.2.2.2.1)) := by
  obtain ⟨hs, hp⟩ := TK_s k
  have no : ¬ C.1 = 2 → ¬ M.2.2.2.2.2.1 = 3 → ∃ F : Int32, 0 < F ∧ f_X7_isWholeWithin P Q 0 C.1 C.2.2.2.2.1 = some (0, F) ∧ f_X13_wholeAt P Q 0 M.2.2.1 M.2.2.2.1 M.2.2.2.2.2.1 w = some (P, F, 5, C.2.2.2.1) := fun a b => by
    refine ⟨1, by decide, ?_, ?_⟩
    · rw [f_X7_isWholeWithin, if_neg a, f_X7_fails, bd_s, gd_t _ (Or.inl rfl)]
    · rw [f_X13_wholeAt, if_neg b, flN hs, bd_s, f_X13_wholeAt_33, if_pos rfl, hp]
  obtain ⟨p, cp, mp, o⟩ := k
  rcases o with ⟨c, m⟩ | ⟨-, -, -, -, ⟨c, m⟩ | ⟨-, ⟨c, m, -⟩ | ⟨c, m, v, hv, cv, mv⟩ | ⟨c, m, -⟩⟩⟩
  · exact Or.inr (no (by rw [c]; decide) (by rw [m]; decide))
  · exact Or.inr (no (by rw [c]; decide) (by rw [m]; decide))
  · exact Or.inr (no (by rw [c]; decide) (by rw [m]; decide))
  · rcases q_in lo hi P Q (nI (hi + 1)) hP hQ rfl hh hl (nI v) with ⟨v', l1, l2, e, g1, g2, g3, -, -, e7⟩ | ⟨g, e7⟩
    · have ev : v = v' := (nI_eq (by omega) (by omega)).mp e
      subst ev
      refine Or.inl ⟨v, l1, l2, c, cv, ?_, ?_⟩
      · rw [f_X7_isWholeWithin, if_pos c, cv, if_neg g1, if_pos g3]
      · rw [f_X13_wholeAt, if_pos m, mv, e7, bd_s, if_neg n10, f_X13_wholeAt_33, if_neg hs]
    · have x : f_X7_isWholeWithin_30 0 C.1 (nI v) = some (0, 4) := by rw [f_X7_isWholeWithin_30, f_X7_fails, bd_s, if_pos z00]
      refine Or.inr ⟨4, by decide, ?_, ?_⟩
      · rcases g with g1 | ⟨g1, -, g3, -⟩
        · rw [f_X7_isWholeWithin, if_pos c, cv, if_pos g1, x]
        · rw [f_X7_isWholeWithin, if_pos c, cv, if_neg g1, if_neg g3, x]
      · rw [f_X13_wholeAt, if_pos m, mv, e7, bd_s, if_pos z00, flN hs, bd_s, f_X13_wholeAt_33, if_pos rfl, hp]
  · exact Or.inr (no (by rw [c]; decide) (by rw [m]; decide))
