/-! THE LINES -/
/-- what both readers have read -/
def RD (c ua ga : Nat) (SL SR bS bR uS uP mU mP aS aD aL mA mB mM : Nat → Int32) (nm nm' : Nat → Int64) : Prop :=
  LB c ua ga SL SR bS bR uS uP mU mP aS aD aL mA mB mM ∧ (∀ s, s < c → nm s = nm' s) ∧ (∀ j, j < ga → ∃ d : Nat, 1 ≤ d ∧ d ≤ 36 ∧ aD j = nI d)
theorem lbN {tb mt : Nat → Int32} {n B : Nat} (hn : n ≤ 500) (h : ∀ i, i < n → tb i = mt i) {C : Int32 × Int32 × Int32 × Int32 × Int32 × Int64} {M : Int32 × Int32 × Int32 × Int32 × Int32 × Int32 × Int32 × Int64} {q : Nat} (k : TK tb B n C M q) (c1 : C.1 = 1) {a L : Int32} (ne : ¬ a = L) (w : Int32) :
    ∃ (C' : Int32 × Int32 × Int32 × Int32 × Int32 × Int64) (M' : Int32 × Int32 × Int32 × Int32 × Int32 × Int32 × Int32 × Int64) (q' : Nat), q ≤ q' ∧ f_X7_advance (nI n) C.1 C.2.1 C.2.2.1 C.2.2.2.1 C.2.2.2.2.1 C.2.2.2.2.2 tb = some C' ∧ f_X13_lineBegins a L 0 M.1 M.2.1 M.2.2.1 M.2.2.2.1 M.2.2.2.2.1 (nI n) M.2.2.2.2.2.1 M.2.2.2.2.2.2.1 M.2.2.2.2.2.2.2 w 1 mt = some (0, M'.1, M'.2.1, M'.2.2.1, M'.2.2.2.1, M'.2.2.2.2.1, M'.2.2.2.2.2.1, M'.2.2.2.2.2.2.1, M'.2.2.2.2.2.2.2, w) ∧ TK tb B n C' M' q' := by
  obtain ⟨-, C', M', q', a1, a2, a3, a4⟩ := adv hn h k (by rw [c1]; decide)
  refine ⟨C', M', q', a1, a2, ?_, a4⟩
  rw [f_X13_lineBegins, if_neg ne, f_X13_lineBegins_10, if_neg n10, f_X13_lineBegins_26, a3, bd_s]
/-- a stack is named that there is -/
theorem q_stackOf {tb mt : Nat → Int32} {n B : Nat} (hn : n ≤ 500) (h : ∀ i, i < n → tb i = mt i) {C : Int32 × Int32 × Int32 × Int32 × Int32 × Int64} {M : Int32 × Int32 × Int32 × Int32 × Int32 × Int32 × Int32 × Int64} {q : Nat} (k : TK tb B n C M q) {c : Nat} {nm nm' : Nat → Int64} (hc : c ≤ 5) (hnm : ∀ s, s < c → nm s = nm' s) (w : Int32) :
    (∃ (s : Nat) (C' : Int32 × Int32 × Int32 × Int32 × Int32 × Int64) (M' : Int32 × Int32 × Int32 × Int32 × Int32 × Int32 × Int32 × Int64) (q' : Nat), s < c ∧ q ≤ q' ∧ f_X7_stackOfName (nI c) 0 C.1 C.2.1 C.2.2.2.2.2 nm = some (nI s, 0) ∧ f_X7_advance (nI n) C.1 C.2.1 C.2.2.1 C.2.2.2.1 C.2.2.2.2.1 C.2.2.2.2.2 tb = some C' ∧ f_X13_readStack 0 M.1 M.2.1 M.2.2.1 M.2.2.2.1 M.2.2.2.2.1 (nI n) M.2.2.2.2.2.1 M.2.2.2.2.2.2.1 M.2.2.2.2.2.2.2 w (nI c) nm' mt = some (nI s, 0, M'.1, M'.2.1, M'.2.2.1, M'.2.2.2.1, M'.2.2.2.2.1, M'.2.2.2.2.2.1, M'.2.2.2.2.2.2.1, M'.2.2.2.2.2.2.2, w) ∧ TK tb B n C' M' q') ∨
    (∃ (F : Int32) (M' : Int32 × Int32 × Int32 × Int32 × Int32 × Int32 × Int32 × Int64), 0 < F ∧ f_X7_stackOfName (nI c) 0 C.1 C.2.1 C.2.2.2.2.2 nm = some (-1, F) ∧ M'.2.2.2.2.2.1 = 5 ∧ f_X13_readStack 0 M.1 M.2.1 M.2.2.1 M.2.2.2.1 M.2.2.2.2.1 (nI n) M.2.2.2.2.2.1 M.2.2.2.2.2.2.1 M.2.2.2.2.2.2.2 w (nI c) nm' mt = some (0, F, M'.1, M'.2.1, M'.2.2.1, M'.2.2.2.1, M'.2.2.2.2.1, M'.2.2.2.2.2.1, M'.2.2.2.2.2.2.1, M'.2.2.2.2.2.2.2, C.2.2.2.1)) := by
  obtain ⟨hs, hp⟩ := TK_s k
  rcases isNm k with ⟨w1, w2, c1⟩ | ⟨w1, w2⟩
  · have cw : C.2.2.2.2.2 = M.2.2.2.2.2.2.2 := by
      obtain ⟨p, cp, mp, o⟩ := k
      rcases o with ⟨c, m⟩ | ⟨-, -, -, -, ⟨c, m⟩ | ⟨-, ⟨c, m, -, -, -, cw, -⟩ | ⟨c, m, -⟩ | ⟨c, m, -⟩⟩⟩
      · rw [c] at c1; exact absurd c1 (by decide)
      · rw [c] at c1; exact absurd c1 (by decide)
      · exact cw
      · rw [c] at c1; exact absurd c1 (by decide)
      · rw [c] at c1; exact absurd c1 (by decide)
    rcases q_find hc hnm C.2.2.2.2.2 with ⟨s, h1, h2, h3⟩ | ⟨h2, h3⟩
    · obtain ⟨-, C', M', q', a1, a2, a3, a4⟩ := adv hn h k (by rw [c1]; decide)
      have ne : ¬ nI s = (-1 : Int32) := nI_neg1 (by omega)
      refine Or.inl ⟨s, C', M', q', h1, a1, ?_, a2, ?_, a4⟩
      · rw [f_X7_stackOfName, w1, bd_s, if_neg n10, h2, bd_s, if_neg ne]
      · rw [f_X13_readStack, w2, bd_s, if_neg n10, f_X13_readStack_12, ← cw, h3, bd_s, if_neg ne, f_X13_readStack_34, if_neg hs, f_X13_readStack_44, cw, a3, bd_s]
    · refine Or.inr ⟨2, (M.1, M.2.1, M.2.2.1, M.2.2.2.1, M.2.2.2.2.1, 5, M.2.2.2.2.2.2.1, M.2.2.2.2.2.2.2), by decide, ?_, rfl, ?_⟩
      · rw [f_X7_stackOfName, w1, bd_s, if_neg n10, h2, bd_s, if_pos rfl, f_X7_fails, bd_s]
      · rw [f_X13_readStack, w2, bd_s, if_neg n10, f_X13_readStack_12, ← cw, h3, bd_s, if_pos rfl, flN hs, bd_s]; (try dsimp only); rw [ rs34 rfl, hp]
  · refine Or.inr ⟨1, (M.1, M.2.1, M.2.2.1, M.2.2.2.1, M.2.2.2.2.1, 5, M.2.2.2.2.2.2.1, M.2.2.2.2.2.2.2), by decide, ?_, rfl, ?_⟩
    · rw [f_X7_stackOfName, w1, bd_s, if_pos z00, f_X7_fails, bd_s]
    · rw [f_X13_readStack, w2, bd_s, if_pos z00, flN hs, bd_s]; (try dsimp only); rw [ rs12 hc rfl, hp]
theorem q_isU {ua : Nat} {uS uP mU mP : Nat → Int32} (hu : ua ≤ 4) (h1 : ∀ i, i < ua → uS i = mU i) (h2 : ∀ i, i < ua → uP i = mP i) (a x : Int32) : ∀ (f k : Nat), k ≤ ua → ua - k < f → (f_X4_isUnsure_2 f a x (nI k) (nI ua) uP uS = some 0 ∧ f_X12_isUnsure_2 f a x (nI k) (nI ua) mP mU = some 0) ∨ (f_X4_isUnsure_2 f a x (nI k) (nI ua) uP uS = some 1 ∧ f_X12_isUnsure_2 f a x (nI k) (nI ua) mP mU = some 1 ∧ ∃ j, j < ua ∧ uS j = a ∧ uP j = x)
  | 0, _, _, h => absurd h (Nat.not_lt_zero _)
  | f + 1, k, hk, hf => by
    rw [f_X4_isUnsure_2, f_X12_isUnsure_2]
    by_cases e : ua ≤ k
    · rw [if_pos (nI_le e (by omega)), if_pos (nI_le e (by omega))]; exact Or.inl ⟨rfl, rfl⟩
    · have IH := q_isU hu h1 h2 a x f (k + 1) (by omega) (by omega)
      have g1 : mU (nI k).toNatClampNeg = uS k := by rw [nI_clamp (by omega)]; exact (h1 k (by omega)).symm
      have g2 : mP (nI k).toNatClampNeg = uP k := by rw [nI_clamp (by omega)]; exact (h2 k (by omega)).symm
      rw [if_neg (nI_ge (by omega) (by omega)), if_neg (nI_ge (by omega) (by omega)), x11_at (by omega) (by omega), bd_s, gd_t _ (nI_in (by omega) (by omega))]
      by_cases z : uS k = a
      · rw [if_pos z, if_pos (g1.trans z), x11_at (by omega) (by omega), bd_s, gd_t _ (nI_in (by omega) (by omega))]
        by_cases y : uP k = x
        · rw [if_pos y, if_pos (g2.trans y)]; exact Or.inr ⟨rfl, rfl, k, by omega, z, y⟩
        · rw [if_neg y, if_neg (fun y' => y (g2.symm.trans y')), f_X4_isUnsure_36, f_X12_isUnsure_32, nI_1]; exact IH
      · rw [if_neg z, if_neg (fun z' => z (g1.symm.trans z')), f_X4_isUnsure_36, f_X12_isUnsure_32, nI_1]; exact IH
theorem q_isA {ua : Nat} {uS uP mU mP : Nat → Int32} (hu : ua ≤ 6) (h1 : ∀ i, i < ua → uS i = mU i) (h2 : ∀ i, i < ua → uP i = mP i) (a x : Int32) : ∀ (f k : Nat), k ≤ ua → ua - k < f → (f_X4_isAgreed_2 f a x (nI k) (nI ua) uP uS = some 0 ∧ f_X12_isAgreed_2 f a x (nI k) (nI ua) mU mP = some 0) ∨ (f_X4_isAgreed_2 f a x (nI k) (nI ua) uP uS = some 1 ∧ f_X12_isAgreed_2 f a x (nI k) (nI ua) mU mP = some 1 ∧ ∃ j, j < ua ∧ uS j = a ∧ uP j = x)
  | 0, _, _, h => absurd h (Nat.not_lt_zero _)
  | f + 1, k, hk, hf => by
    rw [f_X4_isAgreed_2, f_X12_isAgreed_2]
    by_cases e : ua ≤ k
    · rw [if_pos (nI_le e (by omega)), if_pos (nI_le e (by omega))]; exact Or.inl ⟨rfl, rfl⟩
    · have IH := q_isA hu h1 h2 a x f (k + 1) (by omega) (by omega)
      have g1 : mU (nI k).toNatClampNeg = uS k := by rw [nI_clamp (by omega)]; exact (h1 k (by omega)).symm
      have g2 : mP (nI k).toNatClampNeg = uP k := by rw [nI_clamp (by omega)]; exact (h2 k (by omega)).symm
      rw [if_neg (nI_ge (by omega) (by omega)), if_neg (nI_ge (by omega) (by omega)), x11_at (by omega) (by omega), bd_s, gd_t _ (nI_in (by omega) (by omega))]
      by_cases z : uS k = a
      · rw [if_pos z, if_pos (g1.trans z), x11_at (by omega) (by omega), bd_s, gd_t _ (nI_in (by omega) (by omega))]
        by_cases y : uP k = x
        · rw [if_pos y, if_pos (g2.trans y)]; exact Or.inr ⟨rfl, rfl, k, by omega, z, y⟩
        · rw [if_neg y, if_neg (fun y' => y (g2.symm.trans y')), f_X4_isAgreed_36, f_X12_isAgreed_32, nI_1]; exact IH
      · rw [if_neg z, if_neg (fun z' => z (g1.symm.trans z')), f_X4_isAgreed_36, f_X12_isAgreed_32, nI_1]; exact IH
/-- a line of a stack -/
theorem q_lineStack {tb mt : Nat → Int32} {n B : Nat} (hn : n ≤ 500) (h : ∀ i, i < n → tb i = mt i) {C : Int32 × Int32 × Int32 × Int32 × Int32 × Int64} {M : Int32 × Int32 × Int32 × Int32 × Int32 × Int32 × Int32 × Int64} {q : Nat} (k : TK tb B n C M q) (c1 : C.1 = 1) {c : Nat} {nm nm' : Nat → Int64} {SL SR bS bR : Nat → Int32} (hc : c < 5) (hnm : ∀ s, s < c → nm s = nm' s) (w : Int32) :
    (∃ (C' : Int32 × Int32 × Int32 × Int32 × Int32 × Int64) (M' : Int32 × Int32 × Int32 × Int32 × Int32 × Int32 × Int32 × Int64) (q' m r : Nat) (W : Int64), q ≤ q' ∧ 2 ≤ m ∧ m ≤ 12 ∧ r < 2 ^ m ∧ f_X7_readsStack (nI c) (nI n) 0 C.1 C.2.1 C.2.2.1 C.2.2.2.1 C.2.2.2.2.1 C.2.2.2.2.2 nm SL SR tb = some (1, nI (c + 1), 0, C'.1, C'.2.1, C'.2.2.1, C'.2.2.2.1, C'.2.2.2.2.1, C'.2.2.2.2.2, vp_updL nm c W, upd SL c (nI m), upd SR c (nI r)) ∧ f_X13_readAStack 0 M.1 M.2.1 M.2.2.1 M.2.2.2.1 M.2.2.2.2.1 (nI n) M.2.2.2.2.2.1 M.2.2.2.2.2.2.1 M.2.2.2.2.2.2.2 w (nI c) 1 nm' bR bS mt = some (0, M'.1, M'.2.1, M'.2.2.1, M'.2.2.2.1, M'.2.2.2.2.1, M'.2.2.2.2.2.1, M'.2.2.2.2.2.2.1, M'.2.2.2.2.2.2.2, w, nI (c + 1), vp_updL nm' c W, upd bR c (nI r), upd bS c (nI m)) ∧ TK tb B n C' M' q') ∨
    (∃ (F : Int32) (C' : Int32 × Int32 × Int32 × Int32 × Int32 × Int64) (M' : Int32 × Int32 × Int32 × Int32 × Int32 × Int32 × Int32 × Int64), 0 < F ∧ f_X7_readsStack (nI c) (nI n) 0 C.1 C.2.1 C.2.2.1 C.2.2.2.1 C.2.2.2.2.1 C.2.2.2.2.2 nm SL SR tb = some (0, nI c, F, C'.1, C'.2.1, C'.2.2.1, C'.2.2.2.1, C'.2.2.2.2.1, C'.2.2.2.2.2, nm, SL, SR) ∧ M'.2.2.2.2.2.1 = 5 ∧ f_X13_readAStack 0 M.1 M.2.1 M.2.2.1 M.2.2.2.1 M.2.2.2.2.1 (nI n) M.2.2.2.2.2.1 M.2.2.2.2.2.2.1 M.2.2.2.2.2.2.2 w (nI c) 1 nm' bR bS mt = some (F, M'.1, M'.2.1, M'.2.2.1, M'.2.2.2.1, M'.2.2.2.2.1, M'.2.2.2.2.2.1, M'.2.2.2.2.2.2.1, M'.2.2.2.2.2.2.2, C'.2.2.2.1, nI c, nm', bR, bS)) := by
  obtain ⟨C1, M1, q1, a1, a2, a3, a4⟩ := lbN hn h k c1 (a := nI c) (L := 5) (fun z => by have := (nI_eq (b := 5) (by omega) (by omega)).mp z; omega) w
  obtain ⟨hs, hp⟩ := TK_s a4
  have t90 : ∀ (x : Int64) (f r l nn p b s sp w' : Int32) (wd : Int64), s = 5 → f_X13_readAStack_90 x f r l nn p b (nI n) s sp wd w' (nI c) 1 nm' bR bS mt = some (f, r, l, nn, p, b, s, sp, wd, w', nI c, nm', bR, bS) := fun x f r l nn p b s sp w' wd z => by
    rw [f_X13_readAStack_90, go5 z, bd_s]; (try dsimp only); rw [ if_pos z]
  have t44 : ∀ (f r l nn p b s sp w' : Int32) (wd : Int64), s = 5 → f_X13_readAStack_44 f r l nn p b (nI n) s sp wd w' (nI c) 1 nm' bR bS mt = some (f, r, l, nn, p, b, s, sp, wd, w', nI c, nm', bR, bS) := fun f r l nn p b s sp w' wd z => by
    rw [f_X13_readAStack_44, go5 z, bd_s]; (try dsimp only); rw [ if_neg (by rw [z]; decide), fl5 z, bd_s]; (try dsimp only); rw [ t90 _ _ _ _ _ _ _ _ _ _ _ z]
  have t24 : ∀ (f r l nn p b s sp w' : Int32) (wd : Int64), s = 5 → f_X13_readAStack_24 f r l nn p b (nI n) s sp wd w' (nI c) 1 nm' bR bS mt = some (f, r, l, nn, p, b, s, sp, wd, w', nI c, nm', bR, bS) := fun f r l nn p b s sp w' wd z => by
    obtain ⟨x, hx⟩ := find_some (show c ≤ 5 by omega) nm' wd
    rw [f_X13_readAStack_24, hx, bd_s]
    by_cases y : x = -1
    · rw [if_pos y]; exact t44 _ _ _ _ _ _ _ _ _ _ z
    · rw [if_neg y, fl5 z, bd_s]; exact t44 _ _ _ _ _ _ _ _ _ _ z
  rcases isNm a4 with ⟨w1, w2, d1⟩ | ⟨w1, w2⟩
  · have cw : C1.2.2.2.2.2 = M1.2.2.2.2.2.2.2 := by
      obtain ⟨p, cp, mp, o⟩ := a4
      rcases o with ⟨c, m⟩ | ⟨-, -, -, -, ⟨c, m⟩ | ⟨-, ⟨c, m, -, -, -, cw, -⟩ | ⟨c, m, -⟩ | ⟨c, m, -⟩⟩⟩
      · rw [c] at d1; exact absurd d1 (by decide)
      · rw [c] at d1; exact absurd d1 (by decide)
      · exact cw
      · rw [c] at d1; exact absurd d1 (by decide)
      · rw [c] at d1; exact absurd d1 (by decide)
    rcases q_find (show c ≤ 5 by omega) hnm C1.2.2.2.2.2 with ⟨s, h1, h2, h3⟩ | ⟨h2, h3⟩
    · have ne : ¬ nI s = (-1 : Int32) := nI_neg1 (by omega)
      refine Or.inr ⟨3, C1, (M1.1, M1.2.1, M1.2.2.1, M1.2.2.2.1, M1.2.2.2.2.1, 5, M1.2.2.2.2.2.2.1, M1.2.2.2.2.2.2.2), by decide, ?_, rfl, ?_⟩
      · rw [f_X7_readsStack, a2, bd_s]; (try dsimp only); rw [ w1, bd_s]; (try dsimp only); rw [ if_neg n10, h2, bd_s, if_neg ne, f_X7_fails, bd_s]; (try dsimp only); rw [ gd_t _ (Or.inl rfl)]
      · rw [f_X13_readAStack, a3, bd_s]; (try dsimp only); rw [ w2, bd_s]; (try dsimp only); rw [ if_neg n10, f_X13_readAStack_24, ← cw, h3, bd_s, if_neg ne, flN hs, bd_s]; (try dsimp only); rw [ t44 _ _ _ _ _ _ _ _ _ _ rfl, hp]
    · obtain ⟨-, C2, M2, q2, b1, b2, b3, b4⟩ := adv hn h a4 (by rw [d1]; decide)
      obtain ⟨hs2, hp2⟩ := TK_s b4
      have cls : ∀ {y : Option (Int32 × Int32 × Int32 × Int32 × Int32 × Int32 × Int32 × Int32 × Int64 × (Nat → Int64) × (Nat → Int32) × (Nat → Int32))}, (if C2.1 = 1 then (bd (f_X7_rowOfWord C2.2.1 C2.2.2.2.1 tb) fun t8 => if t8 = -1 then (bd (f_X7_fails 7 0) fun t12 => gd (t12.1 = 0 ∨ t12.1 = 1) <| some (t12.1, nI c, t12.2, C2.1, C2.2.1, C2.2.2.1, C2.2.2.2.1, C2.2.2.2.2.1, C2.2.2.2.2.2, nm, SL, SR)) else (bd (f_X4_addStack C1.2.2.2.2.2 t8 C2.2.1 (nI c) nm SL SR) fun t10 => bd (f_X7_advance (nI n) C2.1 C2.2.1 C2.2.2.1 C2.2.2.2.1 C2.2.2.2.2.1 C2.2.2.2.2.2 tb) fun t11 => some (1, t10.1, 0, t11.1, t11.2.1, t11.2.2.1, t11.2.2.2.1, t11.2.2.2.2.1, t11.2.2.2.2.2, t10.2.1, t10.2.2.1, t10.2.2.2))) else (bd (f_X7_fails 1 0) fun t14 => gd (t14.1 = 0 ∨ t14.1 = 1) <| some (t14.1, nI c, t14.2, C2.1, C2.2.1, C2.2.2.1, C2.2.2.2.1, C2.2.2.2.2.1, C2.2.2.2.2.2, nm, SL, SR))) = y → f_X7_readsStack (nI c) (nI n) 0 C.1 C.2.1 C.2.2.1 C.2.2.2.1 C.2.2.2.2.1 C.2.2.2.2.2 nm SL SR tb = y := fun {y} e => by
        rw [f_X7_readsStack, a2, bd_s]; (try dsimp only); rw [ w1, bd_s]; (try dsimp only); rw [ if_neg n10, h2, bd_s, if_pos rfl, b2, bd_s]; exact e
      have mdl : f_X13_readAStack 0 M.1 M.2.1 M.2.2.1 M.2.2.2.1 M.2.2.2.2.1 (nI n) M.2.2.2.2.2.1 M.2.2.2.2.2.2.1 M.2.2.2.2.2.2.2 w (nI c) 1 nm' bR bS mt = f_X13_readAStack_44 0 M1.1 M1.2.1 M1.2.2.1 M1.2.2.2.1 M1.2.2.2.2.1 (nI n) M1.2.2.2.2.2.1 M1.2.2.2.2.2.2.1 M1.2.2.2.2.2.2.2 w (nI c) 1 nm' bR bS mt := by
        rw [f_X13_readAStack, a3, bd_s]; (try dsimp only); rw [ w2, bd_s]; (try dsimp only); rw [ if_neg n10, f_X13_readAStack_24, ← cw, h3, bd_s, if_pos rfl]
      have nok : ¬ C2.1 = 1 → ¬ M2.2.2.2.2.2.1 = 2 → ∃ (F : Int32) (C' : Int32 × Int32 × Int32 × Int32 × Int32 × Int64) (M' : Int32 × Int32 × Int32 × Int32 × Int32 × Int32 × Int32 × Int64), 0 < F ∧ f_X7_readsStack (nI c) (nI n) 0 C.1 C.2.1 C.2.2.1 C.2.2.2.1 C.2.2.2.2.1 C.2.2.2.2.2 nm SL SR tb = some (0, nI c, F, C'.1, C'.2.1, C'.2.2.1, C'.2.2.2.1, C'.2.2.2.2.1, C'.2.2.2.2.2, nm, SL, SR) ∧ M'.2.2.2.2.2.1 = 5 ∧ f_X13_readAStack 0 M.1 M.2.1 M.2.2.1 M.2.2.2.1 M.2.2.2.2.1 (nI n) M.2.2.2.2.2.1 M.2.2.2.2.2.2.1 M.2.2.2.2.2.2.2 w (nI c) 1 nm' bR bS mt = some (F, M'.1, M'.2.1, M'.2.2.1, M'.2.2.2.1, M'.2.2.2.2.1, M'.2.2.2.2.2.1, M'.2.2.2.2.2.2.1, M'.2.2.2.2.2.2.2, C'.2.2.2.1, nI c, nm', bR, bS) := fun a b => by
        refine ⟨1, C2, (M2.1, M2.2.1, M2.2.2.1, M2.2.2.2.1, M2.2.2.2.2.1, 5, M2.2.2.2.2.2.2.1, M2.2.2.2.2.2.2.2), by decide, cls ?_, rfl, ?_⟩
        · rw [if_neg a, f_X7_fails, bd_s]; (try dsimp only); rw [ gd_t _ (Or.inl rfl)]
        · rw [mdl, f_X13_readAStack_44, b3, bd_s]; (try dsimp only); rw [ if_neg b, flN hs2, bd_s]; (try dsimp only); rw [ t90 _ _ _ _ _ _ _ _ _ _ _ rfl, hp2]
      have b4' := b4
      obtain ⟨p, cp, mp, o⟩ := b4'
      rcases o with ⟨x, m⟩ | ⟨-, hq2, -, -, ⟨x, m⟩ | ⟨lt, ⟨x, m, l12, cl, ml, -, mr, mb⟩ | ⟨x, m, -⟩ | ⟨x, m, -⟩⟩⟩
      · exact Or.inr (nok (by rw [x]; decide) (by rw [m]; decide))
      · exact Or.inr (nok (by rw [x]; decide) (by rw [m]; decide))
      · have fl7 : (f_X7_rowOfWord C2.2.1 C2.2.2.2.1 tb = some (-1)) → (f_X13_readAStack_44 0 M1.1 M1.2.1 M1.2.2.1 M1.2.2.2.1 M1.2.2.2.2.1 (nI n) M1.2.2.2.2.2.1 M1.2.2.2.2.2.2.1 M1.2.2.2.2.2.2.2 w (nI c) 1 nm' bR bS mt = f_X13_readAStack_84 M1.2.2.2.2.2.2.2 0 M2.1 M2.2.1 M2.2.2.1 M2.2.2.2.1 M2.2.2.2.2.1 (nI n) M2.2.2.2.2.2.1 M2.2.2.2.2.2.2.1 M2.2.2.2.2.2.2.2 w (nI c) 1 nm' bR bS mt) → ∃ (F : Int32) (C' : Int32 × Int32 × Int32 × Int32 × Int32 × Int64) (M' : Int32 × Int32 × Int32 × Int32 × Int32 × Int32 × Int32 × Int64), 0 < F ∧ f_X7_readsStack (nI c) (nI n) 0 C.1 C.2.1 C.2.2.1 C.2.2.2.1 C.2.2.2.2.1 C.2.2.2.2.2 nm SL SR tb = some (0, nI c, F, C'.1, C'.2.1, C'.2.2.1, C'.2.2.2.1, C'.2.2.2.2.1, C'.2.2.2.2.2, nm, SL, SR) ∧ M'.2.2.2.2.2.1 = 5 ∧ f_X13_readAStack 0 M.1 M.2.1 M.2.2.1 M.2.2.2.1 M.2.2.2.2.1 (nI n) M.2.2.2.2.2.1 M.2.2.2.2.2.2.1 M.2.2.2.2.2.2.2 w (nI c) 1 nm' bR bS mt = some (F, M'.1, M'.2.1, M'.2.2.1, M'.2.2.2.1, M'.2.2.2.2.1, M'.2.2.2.2.2.1, M'.2.2.2.2.2.2.1, M'.2.2.2.2.2.2.2, C'.2.2.2.1, nI c, nm', bR, bS) := fun a b => by
          refine ⟨7, C2, (M2.1, M2.2.1, M2.2.2.1, M2.2.2.2.1, M2.2.2.2.2.1, 5, M2.2.2.2.2.2.2.1, M2.2.2.2.2.2.2.2), by decide, cls ?_, rfl, ?_⟩
          · rw [if_pos x, a, bd_s, if_pos rfl, f_X7_fails, bd_s]; (try dsimp only); rw [ gd_t _ (Or.inl rfl)]
          · rw [mdl, b, f_X13_readAStack_84, flN hs2, bd_s]; (try dsimp only); rw [ t90 _ _ _ _ _ _ _ _ _ _ _ rfl, hp2]
        by_cases L2 : 2 ≤ q2 - p
        · have ro := x7_row L2 l12 (show p + (q2 - p) ≤ 500 by omega) (tb := tb)
          rw [← cl, ← cp] at ro
          rcases Rk_01 tb p (q2 - p) with z | z
          · refine Or.inr (fl7 (by rw [ro, if_neg (by omega)]) ?_)
            rw [f_X13_readAStack_44, b3, bd_s]; (try dsimp only); rw [ if_pos m, if_pos (show M2.1 = 0 by rw [mr, z]; rfl)]
          · have rlt := Rb_lt tb p (q2 - p)
            have r16 : 2 ^ (q2 - p) ≤ 2 ^ 12 := Nat.pow_le_pow_right (by decide) l12
            obtain ⟨-, C3, M3, q3, e1, e2, e3, e4⟩ := adv hn h b4 (by rw [x]; decide)
            refine Or.inl ⟨C3, M3, q3, q2 - p, Rb tb p (q2 - p), C1.2.2.2.2.2, by omega, L2, l12, rlt, cls ?_, ?_, e4⟩
            · rw [if_pos x, ro, if_pos z, bd_s, if_neg (nI_neg1 (by omega)), f_X4_addStack, if_neg (nI_pos (by omega)), if_neg (show ¬ (5 : Int32) ≤ nI c from nI_ge (b := 5) hc (by omega)), gd_t _ (nI_in (by omega) (by omega)), lt_q, x9_put (by omega), bd_s, lt_q, bd_s, e2, bd_s]; (try dsimp only); rw [ nI_clamp (by omega), nI_1, cl]
            · rw [mdl, f_X13_readAStack_44, b3, bd_s]; (try dsimp only); rw [ if_pos m, if_neg (show ¬ M2.1 = 0 by rw [mr, z]; decide), if_pos (show (2 : Int32) ≤ M2.2.1 by rw [ml]; exact nI_le (a := 2) L2 (by omega)), f_X13_readAStack_90, e3, bd_s]; (try dsimp only); rw [ if_neg (TK_s e4).1, gd_t _ (nI_in (by omega) (by omega)), lt_q, gd_t _ (nI_in (by omega) (by omega)), lt_q, gd_t _ (nI_in (by omega) (by omega)), lt_q, lt_q, nI_clamp (by omega), nI_1, mb, ml, cw]
        · refine Or.inr (fl7 ?_ ?_)
          · rw [cl, f_X7_rowOfWord, if_pos (show nI (q2 - p) < (2 : Int32) from nI_lt (b := 2) (by omega) (by omega))]
          · rw [f_X13_readAStack_44, b3, bd_s]; (try dsimp only); rw [ if_pos m]
            by_cases z : M2.1 = 0
            · rw [if_pos z]
            · rw [if_neg z, if_neg (show ¬ (2 : Int32) ≤ M2.2.1 by rw [ml]; exact nI_ge (b := 2) (by omega) (by omega))]
      · exact Or.inr (nok (by rw [x]; decide) (by rw [m]; decide))
      · exact Or.inr (nok (by rw [x]; decide) (by rw [m]; decide))
  · refine Or.inr ⟨1, C1, (M1.1, M1.2.1, M1.2.2.1, M1.2.2.2.1, M1.2.2.2.2.1, 5, M1.2.2.2.2.2.2.1, M1.2.2.2.2.2.2.2), by decide, ?_, rfl, ?_⟩
    · rw [f_X7_readsStack, a2, bd_s]; (try dsimp only); rw [ w1, bd_s]; (try dsimp only); rw [ if_pos z00, f_X7_fails, bd_s]; (try dsimp only); rw [ gd_t _ (Or.inl rfl)]
    · rw [f_X13_readAStack, a3, bd_s]; (try dsimp only); rw [ w2, bd_s]; (try dsimp only); rw [ if_pos z00, flN hs, bd_s]; (try dsimp only); rw [ t24 _ _ _ _ _ _ _ _ _ _ rfl, hp]
