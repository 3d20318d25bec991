/-! THE LINES OF UNSURE STEPS AND OF WHAT WAS AGREED -/
theorem q_isU0 {ua : Nat} {uS uP mU mP : Nat → Int32} (hu : ua ≤ 4) (h1 : ∀ i, i < ua → uS i = mU i) (h2 : ∀ i, i < ua → uP i = mP i) (a x : Int32) : (f_X4_isUnsure a x (nI ua) uP uS = some 0 ∧ f_X12_isUnsure a x (nI ua) mP mU = some 0) ∨ (f_X4_isUnsure a x (nI ua) uP uS = some 1 ∧ f_X12_isUnsure a x (nI ua) mP mU = some 1 ∧ ∃ j, j < ua ∧ uS j = a ∧ uP j = x) := q_isU hu h1 h2 a x kFU 0 (Nat.zero_le _) (by unfold kFU; omega)
theorem q_isA0 {ua : Nat} {uS uP mU mP : Nat → Int32} (hu : ua ≤ 6) (h1 : ∀ i, i < ua → uS i = mU i) (h2 : ∀ i, i < ua → uP i = mP i) (a x : Int32) : (f_X4_isAgreed a x (nI ua) uP uS = some 0 ∧ f_X12_isAgreed a x (nI ua) mU mP = some 0) ∨ (f_X4_isAgreed a x (nI ua) uP uS = some 1 ∧ f_X12_isAgreed a x (nI ua) mU mP = some 1 ∧ ∃ j, j < ua ∧ uS j = a ∧ uP j = x) := q_isA hu h1 h2 a x kFU 0 (Nat.zero_le _) (by unfold kFU; omega)
theorem q_lineUnsure {tb mt : Nat → Int32} {n B : Nat} (hn : n ≤ 500) (h : ∀ i, i < n → tb i = mt i) {C : Int32 × Int32 × Int32 × Int32 × Int32 × Int64} {M : Int32 × Int32 × Int32 × Int32 × Int32 × Int32 × Int32 × Int64} {q : Nat} (k : TK tb B n C M q) (c1 : C.1 = 1) {c ua ga : Nat} {SL SR bS bR uS uP mU mP aS aD aL mA mB mM : Nat → Int32} {nm nm' : Nat → Int64} (hR : RD c ua ga SL SR bS bR uS uP mU mP aS aD aL mA mB mM nm nm') (hu : ua < 4) (w : Int32) :
    (∃ (C' : Int32 × Int32 × Int32 × Int32 × Int32 × Int64) (M' : Int32 × Int32 × Int32 × Int32 × Int32 × Int32 × Int32 × Int64) (q' s m v : Nat), q ≤ q' ∧ s < c ∧ SL s = nI m ∧ m ≤ 12 ∧ v < m ∧ f_X7_readsUnsure (nI ua) (nI c) (nI n) 0 C.1 C.2.1 C.2.2.1 C.2.2.2.1 C.2.2.2.2.1 C.2.2.2.2.2 nm SL uP uS tb = some (1, nI (ua + 1), 0, C'.1, C'.2.1, C'.2.2.1, C'.2.2.2.1, C'.2.2.2.2.1, C'.2.2.2.2.2, upd uP ua (nI v), upd uS ua (nI s)) ∧ f_X13_readUnsure 0 M.1 M.2.1 M.2.2.1 M.2.2.2.1 M.2.2.2.2.1 (nI n) M.2.2.2.2.2.1 M.2.2.2.2.2.2.1 M.2.2.2.2.2.2.2 w (nI c) 1 (nI ua) nm' mP bS mU mt = some (0, M'.1, M'.2.1, M'.2.2.1, M'.2.2.2.1, M'.2.2.2.2.1, M'.2.2.2.2.2.1, M'.2.2.2.2.2.2.1, M'.2.2.2.2.2.2.2, w, nI (ua + 1), upd mP ua (nI v), upd mU ua (nI s)) ∧ TK tb B n C' M' q') ∨
    (∃ (F : Int32) (C' : Int32 × Int32 × Int32 × Int32 × Int32 × Int64) (M' : Int32 × Int32 × Int32 × Int32 × Int32 × Int32 × Int32 × Int64), 0 < F ∧ f_X7_readsUnsure (nI ua) (nI c) (nI n) 0 C.1 C.2.1 C.2.2.1 C.2.2.2.1 C.2.2.2.2.1 C.2.2.2.2.2 nm SL uP uS tb = some (0, nI ua, F, C'.1, C'.2.1, C'.2.2.1, C'.2.2.2.1, C'.2.2.2.2.1, C'.2.2.2.2.2, uP, uS) ∧ M'.2.2.2.2.2.1 = 5 ∧ f_X13_readUnsure 0 M.1 M.2.1 M.2.2.1 M.2.2.2.1 M.2.2.2.2.1 (nI n) M.2.2.2.2.2.1 M.2.2.2.2.2.2.1 M.2.2.2.2.2.2.2 w (nI c) 1 (nI ua) nm' mP bS mU mt = some (F, M'.1, M'.2.1, M'.2.2.1, M'.2.2.2.1, M'.2.2.2.2.1, M'.2.2.2.2.2.1, M'.2.2.2.2.2.2.1, M'.2.2.2.2.2.2.2, C'.2.2.2.1, nI ua, mP, mU)) := by
  obtain ⟨⟨hc, -, -, hS, hU, -⟩, hnm, -⟩ := hR
  obtain ⟨C1, M1, q1, a1, a2, a3, a4⟩ := lbN hn h k c1 (a := nI ua) (L := 4) (fun z => by have := (nI_eq (b := 4) (by omega) (by omega)).mp z; omega) w
  have t59 : ∀ (x1 x2 f r l nn p b s sp w' : Int32) (wd : Int64), s = 5 → f_X13_readUnsure_59 x1 x2 f r l nn p b (nI n) s sp wd w' (nI c) 1 (nI ua) nm' mP bS mU mt = some (f, r, l, nn, p, b, s, sp, wd, w', nI ua, mP, mU) := fun x1 x2 f r l nn p b s sp w' wd z => by
    rw [f_X13_readUnsure_59, go5 z, bd_s]; (try dsimp only); rw [ if_pos z]
  rcases q_stackOf hn h a4 (show c ≤ 5 from hc) hnm w with ⟨s, C2, M2, q2, hs, e0, e1, e2, e3, e4⟩ | ⟨F, M', f0, e1, z, e2⟩
  · obtain ⟨m, r, m2, m12, -, sl, -, bs, -⟩ := hS s hs
    obtain ⟨so, hp⟩ := TK_s e4
    have ne : ¬ nI s = (-1 : Int32) := nI_neg1 (by omega)
    have iu := q_isU0 (uS := uS) (uP := uP) (mU := mU) (mP := mP) (show ua ≤ 4 by omega) (fun i hi => by obtain ⟨_, _, _, -, -, -, -, g1, -, g2, -⟩ := hU i hi; rw [g1, g2]) (fun i hi => by obtain ⟨_, _, _, -, -, -, -, -, g1, -, g2⟩ := hU i hi; rw [g1, g2]) (nI s) C2.2.2.2.2.1
    have cls : ∀ {y}, (if C2.1 = 2 then (bd (f_X4_isUnsure (nI s) C2.2.2.2.2.1 (nI ua) uP uS) fun t6 => if t6 = 0 then f_X7_readsUnsure_47 (nI s) (nI ua) (nI c) (nI n) 0 C2.1 C2.2.1 C2.2.2.1 C2.2.2.2.1 C2.2.2.2.2.1 C2.2.2.2.2.2 nm SL uP uS tb else (bd (f_X7_fails 3 0) fun t8 => gd (t8.1 = 0 ∨ t8.1 = 1) <| some (t8.1, nI ua, t8.2, C2.1, C2.2.1, C2.2.2.1, C2.2.2.2.1, C2.2.2.2.2.1, C2.2.2.2.2.2, uP, uS))) else f_X7_readsUnsure_47 (nI s) (nI ua) (nI c) (nI n) 0 C2.1 C2.2.1 C2.2.2.1 C2.2.2.2.1 C2.2.2.2.2.1 C2.2.2.2.2.2 nm SL uP uS tb) = y → f_X7_readsUnsure (nI ua) (nI c) (nI n) 0 C.1 C.2.1 C.2.2.1 C.2.2.2.1 C.2.2.2.2.1 C.2.2.2.2.2 nm SL uP uS tb = y := fun {y} e => by
      rw [f_X7_readsUnsure, a2, bd_s]; (try dsimp only); rw [ e1, bd_s]; (try dsimp only); rw [ if_neg ne, e2, bd_s]; exact e
    have gs : (nI s).toNatClampNeg = s := nI_clamp (by omega)
    rcases q_wholeAt e4 0 (m - 1) 0 (nI m - 1) rfl (nI_m1 (by omega)) (by omega) (by omega) w with ⟨v, -, v2, c2, cv, x1, x2⟩ | ⟨F, f0, x1, x2⟩
    · have mdl : ∀ {y}, (bd (f_X12_isUnsure (nI s) (nI v) (nI ua) mP mU) fun t6 => if t6 = 0 then f_X13_readUnsure_59 (nI s) (nI v) 0 M2.1 M2.2.1 M2.2.2.1 M2.2.2.2.1 M2.2.2.2.2.1 (nI n) M2.2.2.2.2.2.1 M2.2.2.2.2.2.2.1 M2.2.2.2.2.2.2.2 w (nI c) 1 (nI ua) nm' mP bS mU mt else (bd (f_X13_flaw 3 0 M2.2.2.2.1 M2.2.2.2.2.2.1 w) fun t8 => f_X13_readUnsure_59 (nI s) (nI v) t8.1 M2.1 M2.2.1 M2.2.2.1 M2.2.2.2.1 M2.2.2.2.2.1 (nI n) t8.2.1 M2.2.2.2.2.2.2.1 M2.2.2.2.2.2.2.2 t8.2.2 (nI c) 1 (nI ua) nm' mP bS mU mt)) = y → f_X13_readUnsure 0 M.1 M.2.1 M.2.2.1 M.2.2.2.1 M.2.2.2.2.1 (nI n) M.2.2.2.2.2.1 M.2.2.2.2.2.2.1 M.2.2.2.2.2.2.2 w (nI c) 1 (nI ua) nm' mP bS mU mt = y := fun {y} e => by
        have x2' : f_X13_wholeAt 0 (bS (nI s).toNatClampNeg - 1) 0 M2.2.2.1 M2.2.2.2.1 M2.2.2.2.2.2.1 w = some (nI v, 0, M2.2.2.2.2.2.1, w) := by rw [gs, bs]; exact x2
        rw [f_X13_readUnsure, a3, bd_s]; (try dsimp only); rw [ e3, bd_s]; (try dsimp only); rw [ gd_t _ (nI_in (by omega) (by omega)), x2', bd_s]; (try dsimp only); rw [ if_neg so]; exact e
      rw [cv] at iu
      rcases iu with ⟨i1, i2⟩ | ⟨i1, i2, -⟩
      · obtain ⟨-, C3, M3, q3, d1, d2, d3, d4⟩ := adv hn h e4 (by rw [c2]; decide)
        refine Or.inl ⟨C3, M3, q3, s, m, v, by omega, hs, sl, m12, by omega, cls ?_, mdl ?_, d4⟩
        · have x1' : f_X7_isWholeWithin 0 (SL s - 1) 0 C2.1 C2.2.2.2.2.1 = some (1, 0) := by rw [sl]; exact x1
          rw [if_pos c2, cv, i1, bd_s, if_pos z00, ← cv, f_X7_readsUnsure_47, x9_steps (by omega), bd_s, x1', bd_s]; (try dsimp only); rw [ if_neg n10, f_X4_addUnsure, x11_set (by omega) hu, bd_s, x11_set (by omega) hu, bd_s, lt_q, bd_s, d2, bd_s]; (try dsimp only); rw [ nI_1, cv]
        · rw [i2, bd_s, if_pos z00, f_X13_readUnsure_59, d3, bd_s]; (try dsimp only); rw [ if_neg (TK_s d4).1, gd_t _ (nI_in (by omega) (by omega)), lt_q, gd_t _ (nI_in (by omega) (by omega)), lt_q, lt_q, nI_clamp (by omega), nI_1]
      · refine Or.inr ⟨3, C2, (M2.1, M2.2.1, M2.2.2.1, M2.2.2.2.1, M2.2.2.2.2.1, 5, M2.2.2.2.2.2.2.1, M2.2.2.2.2.2.2.2), by decide, cls ?_, rfl, mdl ?_⟩
        · rw [if_pos c2, cv, i1, bd_s, if_neg n10, f_X7_fails, bd_s]; (try dsimp only); rw [ gd_t _ (Or.inl rfl)]
        · rw [i2, bd_s, if_neg n10, flN so, bd_s]; (try dsimp only); rw [ t59 _ _ _ _ _ _ _ _ _ _ _ _ rfl, hp]
    · have c47 : f_X7_readsUnsure_47 (nI s) (nI ua) (nI c) (nI n) 0 C2.1 C2.2.1 C2.2.2.1 C2.2.2.2.1 C2.2.2.2.2.1 C2.2.2.2.2.2 nm SL uP uS tb = some (0, nI ua, F, C2.1, C2.2.1, C2.2.2.1, C2.2.2.2.1, C2.2.2.2.2.1, C2.2.2.2.2.2, uP, uS) := by
        have x1' : f_X7_isWholeWithin 0 (SL s - 1) 0 C2.1 C2.2.2.2.2.1 = some (0, F) := by rw [sl]; exact x1
        rw [f_X7_readsUnsure_47, x9_steps (by omega), bd_s, x1', bd_s]; (try dsimp only); rw [ if_pos z00]
      refine Or.inr ⟨F, C2, (M2.1, M2.2.1, M2.2.2.1, M2.2.2.2.1, M2.2.2.2.2.1, 5, M2.2.2.2.2.2.2.1, M2.2.2.2.2.2.2.2), f0, cls ?_, rfl, ?_⟩
      · by_cases c2 : C2.1 = 2
        · rw [if_pos c2]
          rcases iu with ⟨i1, -⟩ | ⟨i1, -, j, hj, j1, j2⟩
          · rw [i1, bd_s, if_pos z00, c47]
          · exfalso
            obtain ⟨s', m', k', g1, g2, g3, g4, g5, g6, -, -⟩ := hU j hj
            obtain ⟨_, _, _, _, _, sl', -⟩ := hS s' g1
            have es : s = s' := (nI_eq (by omega) (by omega)).mp (j1.symm.trans g5)
            subst es
            have em : m = m' := (nI_eq (by omega) (by omega)).mp (sl.symm.trans g2)
            subst em
            rw [f_X7_isWholeWithin, if_pos c2, ← j2, g6, if_neg (nI_pos (by omega)), nI_m1 (by omega), if_pos (nI_le (by omega) (by omega))] at x1
            exact n10 (congrArg Prod.fst (Option.some.inj x1))
        · rw [if_neg c2, c47]
      · have x2' : f_X13_wholeAt 0 (bS (nI s).toNatClampNeg - 1) 0 M2.2.2.1 M2.2.2.2.1 M2.2.2.2.2.2.1 w = some (0, F, 5, C2.2.2.2.1) := by rw [gs, bs]; exact x2
        rw [f_X13_readUnsure, a3, bd_s]; (try dsimp only); rw [ e3, bd_s]; (try dsimp only); rw [ gd_t _ (nI_in (by omega) (by omega)), x2', bd_s]; (try dsimp only); rw [ if_pos rfl, t59 _ _ _ _ _ _ _ _ _ _ _ _ rfl]
  · refine Or.inr ⟨F, C1, M', f0, ?_, z, ?_⟩
    · rw [f_X7_readsUnsure, a2, bd_s]; (try dsimp only); rw [ e1, bd_s]; (try dsimp only); rw [ if_pos rfl]
    · rw [f_X13_readUnsure, a3, bd_s]; (try dsimp only); rw [ e2, bd_s]; (try dsimp only); rw [ gd_t _ (by decide), wa5 z, bd_s]; (try dsimp only); rw [ if_pos z, t59 _ _ _ _ _ _ _ _ _ _ _ _ z]
theorem q_lineAgreed {tb mt : Nat → Int32} {n B : Nat} (hn : n ≤ 500) (h : ∀ i, i < n → tb i = mt i) {C : Int32 × Int32 × Int32 × Int32 × Int32 × Int64} {M : Int32 × Int32 × Int32 × Int32 × Int32 × Int32 × Int32 × Int64} {q : Nat} (k : TK tb B n C M q) (c1 : C.1 = 1) {c ua ga : Nat} {SL SR bS bR uS uP mU mP aS aD aL mA mB mM : Nat → Int32} {nm nm' : Nat → Int64} (hR : RD c ua ga SL SR bS bR uS uP mU mP aS aD aL mA mB mM nm nm') (hg : ga < 6) (w : Int32) :
    (∃ (C' : Int32 × Int32 × Int32 × Int32 × Int32 × Int64) (M' : Int32 × Int32 × Int32 × Int32 × Int32 × Int32 × Int32 × Int64) (q' s d l : Nat), q ≤ q' ∧ s < c ∧ 1 ≤ d ∧ d ≤ 36 ∧ l ≤ 36 ∧ f_X7_readsAgreed (nI ga) (nI c) (nI n) 0 C.1 C.2.1 C.2.2.1 C.2.2.2.1 C.2.2.2.2.1 C.2.2.2.2.2 aD aL aS nm tb = some (1, nI (ga + 1), 0, C'.1, C'.2.1, C'.2.2.1, C'.2.2.2.1, C'.2.2.2.2.1, C'.2.2.2.2.2, upd aD ga (nI d), upd aL ga (nI l), upd aS ga (nI s)) ∧ f_X13_readAgreed 0 M.1 M.2.1 M.2.2.1 M.2.2.2.1 M.2.2.2.2.1 (nI n) M.2.2.2.2.2.1 M.2.2.2.2.2.2.1 M.2.2.2.2.2.2.2 w (nI ga) (nI c) 1 mA mB mM nm' mt = some (0, M'.1, M'.2.1, M'.2.2.1, M'.2.2.2.1, M'.2.2.2.2.1, M'.2.2.2.2.2.1, M'.2.2.2.2.2.2.1, M'.2.2.2.2.2.2.2, w, nI (ga + 1), upd mA ga (nI s), upd mB ga (nI d), upd mM ga (nI l)) ∧ TK tb B n C' M' q') ∨
    (∃ (F : Int32) (C' : Int32 × Int32 × Int32 × Int32 × Int32 × Int64) (M' : Int32 × Int32 × Int32 × Int32 × Int32 × Int32 × Int32 × Int64), 0 < F ∧ f_X7_readsAgreed (nI ga) (nI c) (nI n) 0 C.1 C.2.1 C.2.2.1 C.2.2.2.1 C.2.2.2.2.1 C.2.2.2.2.2 aD aL aS nm tb = some (0, nI ga, F, C'.1, C'.2.1, C'.2.2.1, C'.2.2.2.1, C'.2.2.2.2.1, C'.2.2.2.2.2, aD, aL, aS) ∧ M'.2.2.2.2.2.1 = 5 ∧ f_X13_readAgreed 0 M.1 M.2.1 M.2.2.1 M.2.2.2.1 M.2.2.2.2.1 (nI n) M.2.2.2.2.2.1 M.2.2.2.2.2.2.1 M.2.2.2.2.2.2.2 w (nI ga) (nI c) 1 mA mB mM nm' mt = some (F, M'.1, M'.2.1, M'.2.2.1, M'.2.2.2.1, M'.2.2.2.2.1, M'.2.2.2.2.2.1, M'.2.2.2.2.2.2.1, M'.2.2.2.2.2.2.2, C'.2.2.2.1, nI ga, mA, mB, mM)) := by
  obtain ⟨⟨hc, -, -, hS, -, hG⟩, hnm, hD⟩ := hR
  obtain ⟨C1, M1, q1, a1, a2, a3, a4⟩ := lbN hn h k c1 (a := nI ga) (L := 6) (fun z => by have := (nI_eq (b := 6) (by omega) (by omega)).mp z; omega) w
  have t51 : ∀ (x1 x2 f r l nn p b s sp w' : Int32) (wd : Int64), s = 5 → f_X13_readAgreed_51 x1 x2 f r l nn p b (nI n) s sp wd w' (nI ga) (nI c) 1 mA mB mM nm' mt = some (f, r, l, nn, p, b, s, sp, wd, w', nI ga, mA, mB, mM) := fun x1 x2 f r l nn p b s sp w' wd z => by
    rw [f_X13_readAgreed_51, go5 z, bd_s]; (try dsimp only); rw [ rw5 z, bd_s]; (try dsimp only); rw [ if_pos z]
  rcases q_stackOf hn h a4 (show c ≤ 5 from hc) hnm w with ⟨s, C2, M2, q2, hs, e0, e1, e2, e3, e4⟩ | ⟨F, M', f0, e1, z, e2⟩
  · obtain ⟨so, hp⟩ := TK_s e4
    have ne : ¬ nI s = (-1 : Int32) := nI_neg1 (by omega)
    have iu := q_isA0 (uS := aS) (uP := aD) (mU := mA) (mP := mB) (show ga ≤ 6 by omega) (fun i hi => by obtain ⟨_, _, _, -, -, -, g1, -, -, g2, -⟩ := hG i hi; rw [g1, g2]) (fun i hi => by obtain ⟨_, _, _, -, -, -, -, g1, -, -, g2, -⟩ := hG i hi; rw [g1, g2]) (nI s) C2.2.2.2.2.1
    have cls : ∀ {y}, (if C2.1 = 2 then (bd (f_X4_isAgreed (nI s) C2.2.2.2.2.1 (nI ga) aD aS) fun t6 => if t6 = 0 then f_X7_readsAgreed_47 (nI s) (nI ga) (nI c) (nI n) 0 C2.1 C2.2.1 C2.2.2.1 C2.2.2.2.1 C2.2.2.2.2.1 C2.2.2.2.2.2 aD aL aS nm tb else (bd (f_X7_fails 3 0) fun t8 => gd (t8.1 = 0 ∨ t8.1 = 1) <| some (t8.1, nI ga, t8.2, C2.1, C2.2.1, C2.2.2.1, C2.2.2.2.1, C2.2.2.2.2.1, C2.2.2.2.2.2, aD, aL, aS))) else f_X7_readsAgreed_47 (nI s) (nI ga) (nI c) (nI n) 0 C2.1 C2.2.1 C2.2.2.1 C2.2.2.2.1 C2.2.2.2.2.1 C2.2.2.2.2.2 aD aL aS nm tb) = y → f_X7_readsAgreed (nI ga) (nI c) (nI n) 0 C.1 C.2.1 C.2.2.1 C.2.2.2.1 C.2.2.2.2.1 C.2.2.2.2.2 aD aL aS nm tb = y := fun {y} e => by
      rw [f_X7_readsAgreed, a2, bd_s]; (try dsimp only); rw [ e1, bd_s]; (try dsimp only); rw [ if_neg ne, e2, bd_s]; exact e
    rcases q_wholeAt e4 1 36 1 36 rfl rfl (by omega) (by omega) w with ⟨v, v1, v2, c2, cv, x1, x2⟩ | ⟨F, f0, x1, x2⟩
    · have mdl : ∀ {y}, (bd (f_X12_isAgreed (nI s) (nI v) (nI ga) mA mB) fun t5 => if t5 = 0 then f_X13_readAgreed_51 (nI s) (nI v) 0 M2.1 M2.2.1 M2.2.2.1 M2.2.2.2.1 M2.2.2.2.2.1 (nI n) M2.2.2.2.2.2.1 M2.2.2.2.2.2.2.1 M2.2.2.2.2.2.2.2 w (nI ga) (nI c) 1 mA mB mM nm' mt else (bd (f_X13_flaw 3 0 M2.2.2.2.1 M2.2.2.2.2.2.1 w) fun t8 => f_X13_readAgreed_51 (nI s) (nI v) t8.1 M2.1 M2.2.1 M2.2.2.1 M2.2.2.2.1 M2.2.2.2.2.1 (nI n) t8.2.1 M2.2.2.2.2.2.2.1 M2.2.2.2.2.2.2.2 t8.2.2 (nI ga) (nI c) 1 mA mB mM nm' mt)) = y → f_X13_readAgreed 0 M.1 M.2.1 M.2.2.1 M.2.2.2.1 M.2.2.2.2.1 (nI n) M.2.2.2.2.2.1 M.2.2.2.2.2.2.1 M.2.2.2.2.2.2.2 w (nI ga) (nI c) 1 mA mB mM nm' mt = y := fun {y} e => by
        rw [f_X13_readAgreed, a3, bd_s]; (try dsimp only); rw [ e3, bd_s]; (try dsimp only); rw [ x2, bd_s]; (try dsimp only); rw [ if_neg so]; exact e
      rw [cv] at iu
      rcases iu with ⟨i1, i2⟩ | ⟨i1, i2, -⟩
      · obtain ⟨-, C3, M3, q3, d1, d2, d3, d4⟩ := adv hn h e4 (by rw [c2]; decide)
        rcases q_readWhole hn h d4 0 36 0 36 rfl rfl (by omega) (by omega) w with ⟨l, C4, M4, q4, -, l2, -, lv, y1, y2, y3, y4, y5⟩ | ⟨F, M', f0, y1, z, y2⟩
        · refine Or.inl ⟨C4, M4, q4, s, v, l, by omega, hs, v1, v2, l2, cls ?_, mdl ?_, y5⟩
          · rw [if_pos c2, cv, i1, bd_s, if_pos z00, ← cv, f_X7_readsAgreed_47, x1, bd_s]; (try dsimp only); rw [ if_neg n10, d2, bd_s]; (try dsimp only); rw [ y1, bd_s]; (try dsimp only); rw [ if_neg n10, f_X4_addAgreed, x11_set (by omega) hg, bd_s, x11_set (by omega) hg, bd_s, x11_set (by omega) hg, bd_s, lt_q, bd_s, y2, bd_s]; (try dsimp only); rw [ nI_1, cv, lv]
          · rw [i2, bd_s, if_pos z00, f_X13_readAgreed_51, d3, bd_s]; (try dsimp only); rw [ y3, bd_s]; (try dsimp only); rw [ if_neg (TK_s y5).1, gd_t _ (nI_in (by omega) (by omega)), lt_q, gd_t _ (nI_in (by omega) (by omega)), lt_q, gd_t _ (nI_in (by omega) (by omega)), lt_q, lt_q, nI_clamp (by omega), nI_1]
        · refine Or.inr ⟨F, C3, M', f0, cls ?_, z, mdl ?_⟩
          · rw [if_pos c2, cv, i1, bd_s, if_pos z00, ← cv, f_X7_readsAgreed_47, x1, bd_s]; (try dsimp only); rw [ if_neg n10, d2, bd_s]; (try dsimp only); rw [ y1, bd_s]; (try dsimp only); rw [ if_pos z00]
          · rw [i2, bd_s, if_pos z00, f_X13_readAgreed_51, d3, bd_s]; (try dsimp only); rw [ y2, bd_s]; (try dsimp only); rw [ if_pos z]
      · refine Or.inr ⟨3, C2, (M2.1, M2.2.1, M2.2.2.1, M2.2.2.2.1, M2.2.2.2.2.1, 5, M2.2.2.2.2.2.2.1, M2.2.2.2.2.2.2.2), by decide, cls ?_, rfl, mdl ?_⟩
        · rw [if_pos c2, cv, i1, bd_s, if_neg n10, f_X7_fails, bd_s]; (try dsimp only); rw [ gd_t _ (Or.inl rfl)]
        · rw [i2, bd_s, if_neg n10, flN so, bd_s]; (try dsimp only); rw [ t51 _ _ _ _ _ _ _ _ _ _ _ _ rfl, hp]
    · have c47 : f_X7_readsAgreed_47 (nI s) (nI ga) (nI c) (nI n) 0 C2.1 C2.2.1 C2.2.2.1 C2.2.2.2.1 C2.2.2.2.2.1 C2.2.2.2.2.2 aD aL aS nm tb = some (0, nI ga, F, C2.1, C2.2.1, C2.2.2.1, C2.2.2.2.1, C2.2.2.2.2.1, C2.2.2.2.2.2, aD, aL, aS) := by
        rw [f_X7_readsAgreed_47, x1, bd_s]; (try dsimp only); rw [ if_pos z00]
      refine Or.inr ⟨F, C2, (M2.1, M2.2.1, M2.2.2.1, M2.2.2.2.1, M2.2.2.2.2.1, 5, M2.2.2.2.2.2.2.1, M2.2.2.2.2.2.2.2), f0, cls ?_, rfl, ?_⟩
      · by_cases c2 : C2.1 = 2
        · rw [if_pos c2]
          rcases iu with ⟨i1, -⟩ | ⟨i1, -, j, hj, j1, j2⟩
          · rw [i1, bd_s, if_pos z00, c47]
          · exfalso
            obtain ⟨d, d1, d2, d3⟩ := hD j hj
            rw [f_X7_isWholeWithin, if_pos c2, ← j2, d3, if_neg (show ¬ nI d < (1 : Int32) from nI_nlt (b := 1) d1 (by omega)), if_pos (show nI d ≤ (36 : Int32) from nI_le (b := 36) d2 (by omega))] at x1
            exact n10 (congrArg Prod.fst (Option.some.inj x1))
        · rw [if_neg c2, c47]
      · rw [f_X13_readAgreed, a3, bd_s]; (try dsimp only); rw [ e3, bd_s]; (try dsimp only); rw [ x2, bd_s]; (try dsimp only); rw [ if_pos rfl, t51 _ _ _ _ _ _ _ _ _ _ _ _ rfl]
  · refine Or.inr ⟨F, C1, M', f0, ?_, z, ?_⟩
    · rw [f_X7_readsAgreed, a2, bd_s]; (try dsimp only); rw [ e1, bd_s]; (try dsimp only); rw [ if_pos rfl]
    · rw [f_X13_readAgreed, a3, bd_s]; (try dsimp only); rw [ e2, bd_s]; (try dsimp only); rw [ wa5 z, bd_s]; (try dsimp only); rw [ if_pos z, t51 _ _ _ _ _ _ _ _ _ _ _ _ z]
