/-! A LINE -/
theorem cod_ne {i j : Nat} (hi : i < 8) (hj : j < 8) (ne : i ≠ j) : ¬ cod i = cod j := of_decide_eq_true (allB_at (allB_at (N := 8) (p := fun i => allB 8 (fun j => decide (i ≠ j → ¬ cod i = cod j))) (by decide +kernel) i hi) j hj) ne
theorem isW_ex {i j : Nat} (hi : i < 8) (hj : j < 8) (ne : i ≠ j) {kd : Int32} {wd : Int64} (h : f_X7_isWord i kd wd = some 1) : f_X7_isWord j kd wd = some 0 := by
  rw [f_X7_isWord] at h
  by_cases k : kd = 1
  · rw [if_pos k, (cod_all hi).1, bd_s] at h
    by_cases z : lg_cmp wd (cod i) = 0
    · have e := (lg_cmp_eq _ _).mp z
      rw [f_X7_isWord, if_pos k, (cod_all hj).1, bd_s, e, if_neg (fun y => cod_ne hi hj ne ((lg_cmp_eq _ _).mp y))]
    · rw [if_neg z] at h
      exact absurd (Option.some.inj h) (by decide)
  · rw [if_neg k] at h
    exact absurd (Option.some.inj h) (by decide)
/-! no line begins here -/
theorem lb26 {f r l nn p b N s sp w td : Int32} {wd : Int64} {mt : Nat → Int32} (hs : s = 5) : f_X13_lineBegins_26 f r l nn p b N s sp wd w td mt = some (f, r, l, nn, p, b, s, sp, wd, w) := by rw [f_X13_lineBegins_26, go5 hs, bd_s]
theorem lbF5 {a f r l nn p b N s sp w td : Int32} {wd : Int64} {mt : Nat → Int32} (hs : ¬ s = 5) : f_X13_lineBegins a a f r l nn p b N s sp wd w td mt = some (5, r, l, nn, p, b, 5, sp, wd, p) := by
  rw [f_X13_lineBegins, if_pos rfl, flN hs, bd_s]; (try dsimp only); rw [f_X13_lineBegins_10]
  by_cases z : td = 0
  · rw [if_pos z, fl5 rfl, bd_s]; (try dsimp only); rw [ lb26 rfl]
  · rw [if_neg z, lb26 rfl]
theorem lbF6 {a L f r l nn p b N s sp w : Int32} {wd : Int64} {mt : Nat → Int32} (hs : ¬ s = 5) (ne : ¬ a = L) : f_X13_lineBegins a L f r l nn p b N s sp wd w 0 mt = some (6, r, l, nn, p, b, 5, sp, wd, p) := by
  rw [f_X13_lineBegins, if_neg ne, f_X13_lineBegins_10, if_pos z00, flN hs, bd_s]; (try dsimp only); rw [ lb26 rfl]
theorem lab5 {f r l nn p b N s sp w mg mn ms m3 td : Int32} {wd : Int64} {mt : Nat → Int32} (z : s = 5) : f_X13_readLab_15 f r l nn p b N s sp wd w mg mn ms m3 td mt = some (f, r, l, nn, p, b, s, sp, wd, w, mg, mn, ms, m3, td) := by
  rw [f_X13_readLab_15, go5 z, bd_s]; (try dsimp only); rw [ rn5 z, bd_s]; (try dsimp only); rw [ rn5 z, bd_s]; (try dsimp only); rw [ rn5 z, bd_s]; (try dsimp only); rw [ nd5 z, bd_s]; (try dsimp only); rw [ rw5 z, bd_s]; (try dsimp only); rw [ if_pos z]
theorem astF {n c : Nat} (hc : c ≤ 5) {f r l nn p b s sp w td F P r' l' n' p' b' sp' : Int32} {wd wd' : Int64} {nm' : Nat → Int64} {bR bS mt : Nat → Int32} (e : f_X13_lineBegins (nI c) 5 f r l nn p b (nI n) s sp wd w td mt = some (F, r', l', n', p', b', 5, sp', wd', P)) : f_X13_readAStack f r l nn p b (nI n) s sp wd w (nI c) td nm' bR bS mt = some (F, r', l', n', p', b', 5, sp', wd', P, nI c, nm', bR, bS) := by
  have t90 : ∀ (x : Int64) (f r l nn p b sp w' : Int32) (wd : Int64), f_X13_readAStack_90 x f r l nn p b (nI n) 5 sp wd w' (nI c) td nm' bR bS mt = some (f, r, l, nn, p, b, 5, sp, wd, w', nI c, nm', bR, bS) := fun x f r l nn p b sp w' wd => by
    rw [f_X13_readAStack_90, go5 rfl, bd_s]; (try dsimp only); rw [ if_pos rfl]
  have t44 : ∀ (f r l nn p b sp w' : Int32) (wd : Int64), f_X13_readAStack_44 f r l nn p b (nI n) 5 sp wd w' (nI c) td nm' bR bS mt = some (f, r, l, nn, p, b, 5, sp, wd, w', nI c, nm', bR, bS) := fun f r l nn p b sp w' wd => by
    rw [f_X13_readAStack_44, go5 rfl, bd_s]; (try dsimp only); rw [ if_neg (by decide), fl5 rfl, bd_s]; (try dsimp only); rw [ t90]
  obtain ⟨x, hx⟩ := find_some hc nm' wd'
  rw [f_X13_readAStack, e, bd_s]; (try dsimp only); rw [ nm5 rfl, bd_s]; (try dsimp only); rw [ if_pos z00, fl5 rfl, bd_s]; (try dsimp only); rw [ f_X13_readAStack_24, hx, bd_s]
  by_cases y : x = -1
  · rw [if_pos y, t44]
  · rw [if_neg y, fl5 rfl, bd_s, t44]
theorem unsF {n c ua : Nat} (hc : c ≤ 5) {f r l nn p b s sp w td F P r' l' n' p' b' sp' : Int32} {wd wd' : Int64} {nm' : Nat → Int64} {mP bS mU mt : Nat → Int32} (e : f_X13_lineBegins (nI ua) 4 f r l nn p b (nI n) s sp wd w td mt = some (F, r', l', n', p', b', 5, sp', wd', P)) : f_X13_readUnsure f r l nn p b (nI n) s sp wd w (nI c) td (nI ua) nm' mP bS mU mt = some (F, r', l', n', p', b', 5, sp', wd', P, nI ua, mP, mU) := by
  rw [f_X13_readUnsure, e, bd_s]; (try dsimp only); rw [ rs5 hc rfl, bd_s]; (try dsimp only); rw [ gd_t _ (by decide), wa5 rfl, bd_s]; (try dsimp only); rw [ if_pos rfl, f_X13_readUnsure_59, go5 rfl, bd_s]; (try dsimp only); rw [ if_pos rfl]
theorem agrF {n c ga : Nat} (hc : c ≤ 5) {f r l nn p b s sp w td F P r' l' n' p' b' sp' : Int32} {wd wd' : Int64} {nm' : Nat → Int64} {mA mB mM mt : Nat → Int32} (e : f_X13_lineBegins (nI ga) 6 f r l nn p b (nI n) s sp wd w td mt = some (F, r', l', n', p', b', 5, sp', wd', P)) : f_X13_readAgreed f r l nn p b (nI n) s sp wd w (nI ga) (nI c) td mA mB mM nm' mt = some (F, r', l', n', p', b', 5, sp', wd', P, nI ga, mA, mB, mM) := by
  rw [f_X13_readAgreed, e, bd_s]; (try dsimp only); rw [ rs5 hc rfl, bd_s]; (try dsimp only); rw [ wa5 rfl, bd_s]; (try dsimp only); rw [ if_pos rfl, f_X13_readAgreed_51, go5 rfl, bd_s]; (try dsimp only); rw [ rw5 rfl, bd_s]; (try dsimp only); rw [ if_pos rfl]
def HD (g nr sc th mg mn ms m3 : Int32) : Prop := mg = g ∧ mn = nr ∧ ms = sc ∧ m3 = th ∧ ib nr 99 ∧ ib sc 99 ∧ ib th 99 ∧ ∃ G : Nat, G ≤ 100 ∧ g = nI G
theorem q_lineF {tb mt : Nat → Int32} {n B : Nat}  {C : Int32 × Int32 × Int32 × Int32 × Int32 × Int64} {M : Int32 × Int32 × Int32 × Int32 × Int32 × Int32 × Int32 × Int64} {q : Nat} (k : TK tb B n C M q) {c ua ga : Nat} {SL SR bS bR uS uP mU mP aS aD aL mA mB mM : Nat → Int32} {nm nm' : Nat → Int64} (hR : RD c ua ga SL SR bS bR uS uP mU mP aS aD aL mA mB mM nm nm') (T : Nat) (g nr sc th mg mn ms m3 num w F : Int32) (f0 : 0 < F) (e : f_X7_mayBegin (nI ga) (nI T) (nI ua) (nI c) 0 C.1 C.2.2.2.2.2 = some (0, F)) {r' l' n' p' b' sp' : Int32} {wd' : Int64} (z : ∃ R, f_X13_readLine 0 M.1 M.2.1 M.2.2.1 M.2.2.2.1 M.2.2.2.2.1 (nI n) M.2.2.2.2.2.1 M.2.2.2.2.2.2.1 M.2.2.2.2.2.2.2 w (nI ga) mg mn ms (nI c) m3 (nI T) (nI ua) mA mB mM nm' mP bR bS mU mt = some (F, r', l', n', p', b', 5, sp', wd', C.2.2.2.1, R)) :
    (∃ (F P : Int32), 0 < F ∧ ((f_X7_mayBegin (nI ga) (nI T) (nI ua) (nI c) 0 C.1 C.2.2.2.2.2 = some (0, F) ∧ C.2.2.2.1 = P) ∨ (f_X7_mayBegin (nI ga) (nI T) (nI ua) (nI c) 0 C.1 C.2.2.2.2.2 = some (1, 0) ∧ ∃ O, f_X7_readsLine (nI ga) (nI T) g nr sc th (nI ua) (nI c) (nI n) 0 C.1 C.2.1 C.2.2.1 num C.2.2.2.1 C.2.2.2.2.1 C.2.2.2.2.2 aD aL aS nm SL SR uP uS tb = some O ∧ O.1 = 0 ∧ O.2.2.2.2.2.2.2.2.2.1 = F ∧ O.2.2.2.2.2.2.2.2.2.2.2.2.2.2.1 = P)) ∧ ∃ Z, f_X13_readLine 0 M.1 M.2.1 M.2.2.1 M.2.2.2.1 M.2.2.2.2.1 (nI n) M.2.2.2.2.2.1 M.2.2.2.2.2.2.1 M.2.2.2.2.2.2.2 w (nI ga) mg mn ms (nI c) m3 (nI T) (nI ua) mA mB mM nm' mP bR bS mU mt = some Z ∧ Z.1 = F ∧ Z.2.2.2.2.2.2.1 = 5 ∧ Z.2.2.2.2.2.2.2.2.2.1 = P) := by
  obtain ⟨R, e2⟩ := z
  exact ⟨F, C.2.2.2.1, f0, Or.inl ⟨e, rfl⟩, _, e2, rfl, rfl, rfl⟩
theorem q_line {tb mt : Nat → Int32} {n B : Nat} (hn : n ≤ 500) (h : ∀ i, i < n → tb i = mt i) {C : Int32 × Int32 × Int32 × Int32 × Int32 × Int64} {M : Int32 × Int32 × Int32 × Int32 × Int32 × Int32 × Int32 × Int64} {q : Nat} (k : TK tb B n C M q) {c ua ga : Nat} {SL SR bS bR uS uP mU mP aS aD aL mA mB mM : Nat → Int32} {nm nm' : Nat → Int64} (hR : RD c ua ga SL SR bS bR uS uP mU mP aS aD aL mA mB mM nm nm') (T : Nat) (hT : T = 0 ∨ T = 1) (hT0 : T = 0 → c = 0 ∧ ua = 0 ∧ ga = 0) {g nr sc th mg mn ms m3 : Int32} (hH : T = 1 → HD g nr sc th mg mn ms m3) (num w : Int32) :
    (∃ (F P : Int32), 0 < F ∧ ((f_X7_mayBegin (nI ga) (nI T) (nI ua) (nI c) 0 C.1 C.2.2.2.2.2 = some (0, F) ∧ C.2.2.2.1 = P) ∨ (f_X7_mayBegin (nI ga) (nI T) (nI ua) (nI c) 0 C.1 C.2.2.2.2.2 = some (1, 0) ∧ ∃ O, f_X7_readsLine (nI ga) (nI T) g nr sc th (nI ua) (nI c) (nI n) 0 C.1 C.2.1 C.2.2.1 num C.2.2.2.1 C.2.2.2.2.1 C.2.2.2.2.2 aD aL aS nm SL SR uP uS tb = some O ∧ O.1 = 0 ∧ O.2.2.2.2.2.2.2.2.2.1 = F ∧ O.2.2.2.2.2.2.2.2.2.2.2.2.2.2.1 = P)) ∧ ∃ Z, f_X13_readLine 0 M.1 M.2.1 M.2.2.1 M.2.2.2.1 M.2.2.2.2.1 (nI n) M.2.2.2.2.2.1 M.2.2.2.2.2.2.1 M.2.2.2.2.2.2.2 w (nI ga) mg mn ms (nI c) m3 (nI T) (nI ua) mA mB mM nm' mP bR bS mU mt = some Z ∧ Z.1 = F ∧ Z.2.2.2.2.2.2.1 = 5 ∧ Z.2.2.2.2.2.2.2.2.2.1 = P) ∨
    (∃ (g' nr' sc' th' mg' mn' ms' m3' nu : Int32) (c' ua' ga' q' : Nat) (SL' SR' bS' bR' uS' uP' mU' mP' aS' aD' aL' mA' mB' mM' : Nat → Int32) (na na' : Nat → Int64) (C' : Int32 × Int32 × Int32 × Int32 × Int32 × Int64) (M' : Int32 × Int32 × Int32 × Int32 × Int32 × Int32 × Int32 × Int64), C.1 = 1 ∧ f_X7_mayBegin (nI ga) (nI T) (nI ua) (nI c) 0 C.1 C.2.2.2.2.2 = some (1, 0) ∧ f_X7_readsLine (nI ga) (nI T) g nr sc th (nI ua) (nI c) (nI n) 0 C.1 C.2.1 C.2.2.1 num C.2.2.2.1 C.2.2.2.2.1 C.2.2.2.2.2 aD aL aS nm SL SR uP uS tb = some (1, nI ga', 1, g', nr', sc', th', nI ua', nI c', 0, C'.1, C'.2.1, C'.2.2.1, nu, C'.2.2.2.1, C'.2.2.2.2.1, C'.2.2.2.2.2, aD', aL', aS', na, SL', SR', uP', uS') ∧ f_X13_readLine 0 M.1 M.2.1 M.2.2.1 M.2.2.2.1 M.2.2.2.2.1 (nI n) M.2.2.2.2.2.1 M.2.2.2.2.2.2.1 M.2.2.2.2.2.2.2 w (nI ga) mg mn ms (nI c) m3 (nI T) (nI ua) mA mB mM nm' mP bR bS mU mt = some (0, M'.1, M'.2.1, M'.2.2.1, M'.2.2.2.1, M'.2.2.2.2.1, M'.2.2.2.2.2.1, M'.2.2.2.2.2.2.1, M'.2.2.2.2.2.2.2, w, nI ga', mg', mn', ms', nI c', m3', 1, nI ua', mA', mB', mM', na', mP', bR', bS', mU') ∧ q ≤ q' ∧ TK tb B n C' M' q' ∧ RD c' ua' ga' SL' SR' bS' bR' uS' uP' mU' mP' aS' aD' aL' mA' mB' mM' na na' ∧ HD g' nr' sc' th' mg' mn' ms' m3') := by
  obtain ⟨hs, hp⟩ := TK_s k
  have hR' := hR
  obtain ⟨⟨hc, hu, hg, hS, hU, hG⟩, hnm, hD⟩ := hR'
  have a0 := isW k (j := 0) (j' := 8) (by decide) rfl
  have a1 := isW k (j := 1) (j' := 9) (by decide) rfl
  have a2 := isW k (j := 2) (j' := 10) (by decide) rfl
  have a3 := isW k (j := 3) (j' := 11) (by decide) rfl
  rcases a0 with ⟨x0, y0, k1⟩ | ⟨x0, y0⟩
  · rcases hT with rfl | rfl
    · obtain ⟨rfl, rfl, rfl⟩ := hT0 rfl
      have mb : f_X7_mayBegin (nI 0) (nI 0) (nI 0) (nI 0) 0 C.1 C.2.2.2.2.2 = some (1, 0) := by rw [f_X7_mayBegin, x0, bd_s, if_neg n10, if_pos nI_0]
      rcases q_head hn h k (by rw [k1]; decide) (nI 0) g nr sc th num w mg mn ms m3 (nI 0) with ⟨O, e1, e2, e3, M', e4, e5⟩ | ⟨G, x1, x2, x3, nu, C', M', q', g1, g2, g3, g4, g5, e1, e2, e3⟩
      · refine Or.inl ⟨O.2.2.2.2.2.2.1, O.2.2.2.2.2.2.2.2.2.2.2.1, e3, Or.inr ⟨mb, ?_⟩, ?_⟩
        · rw [f_X7_readsLine, x0, bd_s, if_neg n10, e1, bd_s, gd_t _ (Or.inl e2)]
          exact ⟨_, rfl, e2, rfl, rfl⟩
        · rw [f_X13_readLine, y0, bd_s, if_neg n10, f_X13_readLab, if_pos nI_0, e5, bd_s]
          exact ⟨_, rfl, rfl, e4, rfl⟩
      · refine Or.inr ⟨nI G, x1, x2, x3, nI G, x1, x2, x3, nu, 0, 0, 0, q', SL, SR, bS, bR, uS, uP, mU, mP, aS, aD, aL, mA, mB, mM, nm, nm', C', M', k1, mb, ?_, ?_, g5, e3, hR, rfl, rfl, rfl, rfl, g2, g3, g4, G, g1, rfl⟩
        · rw [f_X7_readsLine, x0, bd_s, if_neg n10, e1, bd_s, gd_t _ (Or.inr rfl)]
        · rw [f_X13_readLine, y0, bd_s, if_neg n10, f_X13_readLab, if_pos nI_0, e2, bd_s]
    · have mb : f_X7_mayBegin (nI ga) (nI 1) (nI ua) (nI c) 0 C.1 C.2.2.2.2.2 = some (0, 3) := by rw [f_X7_mayBegin, x0, bd_s, if_neg n10, if_neg (show ¬ nI 1 = 0 by decide), f_X7_fails, bd_s]; (try dsimp only); rw [ if_pos z00]
      refine Or.inl (q_lineF k hR 1 g nr sc th mg mn ms m3 num w 3 (by decide) mb (r' := M.1) (l' := M.2.1) (n' := M.2.2.1) (p' := M.2.2.2.1) (b' := M.2.2.2.2.1) (sp' := M.2.2.2.2.2.2.1) (wd' := M.2.2.2.2.2.2.2) ?_)
      rw [f_X13_readLine, y0, bd_s, if_neg n10, f_X13_readLab, if_neg (show ¬ nI 1 = 0 by decide), flN hs, bd_s]; (try dsimp only); rw [ lab5 rfl, bd_s, hp]
      exact ⟨_, rfl⟩
  · have none_ : f_X7_isWord 1 C.1 C.2.2.2.2.2 = some 0 → f_X7_isWord 2 C.1 C.2.2.2.2.2 = some 0 → f_X7_isWord 3 C.1 C.2.2.2.2.2 = some 0 → f_X7_mayBegin (nI ga) (nI T) (nI ua) (nI c) 0 C.1 C.2.2.2.2.2 = some (0, 1) := fun b1 b2 b3 => by
      rw [f_X7_mayBegin, x0, bd_s, if_pos z00, b1, bd_s, b2, bd_s, b3, bd_s, if_pos z00, if_pos z00, if_pos z00, f_X7_fails, bd_s]; (try dsimp only); rw [ gd_t _ (Or.inl rfl)]
    have told0 : ∀ a b d : Int32, T = 0 → f_X7_mayBegin_71 a b d (nI ga) (nI T) (nI ua) (nI c) 0 C.1 C.2.2.2.2.2 = some (0, 6) := fun a b d z => by
      rw [f_X7_mayBegin_71, if_pos (show nI T = 0 by rw [z]; rfl), f_X7_fails, bd_s]; (try dsimp only); rw [ gd_t _ (Or.inl rfl)]
    have many : f_X7_mayBegin_126 (nI ga) (nI T) (nI ua) (nI c) 0 C.1 C.2.2.2.2.2 = some (0, 5) := by
      rw [f_X7_mayBegin_126, f_X7_mayBegin_131, if_neg n10, f_X7_fails, bd_s]; (try dsimp only); rw [ if_pos z00]
    have may : f_X7_mayBegin_130 (nI ga) (nI T) (nI ua) (nI c) 0 C.1 C.2.2.2.2.2 = some (1, 0) := by
      rw [f_X7_mayBegin_130, f_X7_mayBegin_131, if_pos z00]
    have n1 : T = 1 → ¬ nI T = 0 := fun z => by rw [z]; decide
    rcases a1 with ⟨x1, y1, k1⟩ | ⟨x1, y1⟩
    · have b2 := isW_ex (i := 1) (j := 2) (by decide) (by decide) (by decide) x1
      have b3 := isW_ex (i := 1) (j := 3) (by decide) (by decide) (by decide) x1
      have mbe : f_X7_mayBegin (nI ga) (nI T) (nI ua) (nI c) 0 C.1 C.2.2.2.2.2 = f_X7_mayBegin_71 1 0 0 (nI ga) (nI T) (nI ua) (nI c) 0 C.1 C.2.2.2.2.2 := by rw [f_X7_mayBegin, x0, bd_s, if_pos z00, x1, bd_s, b2, bd_s, b3, bd_s, if_neg n10]
      have rl : ∀ {F r' l' n' p' b' sp' : Int32} {wd' : Int64}, f_X13_lineBegins (nI c) 5 0 M.1 M.2.1 M.2.2.1 M.2.2.2.1 M.2.2.2.2.1 (nI n) M.2.2.2.2.2.1 M.2.2.2.2.2.2.1 M.2.2.2.2.2.2.2 w (nI T) mt = some (F, r', l', n', p', b', 5, sp', wd', C.2.2.2.1) → ∃ R, f_X13_readLine 0 M.1 M.2.1 M.2.2.1 M.2.2.2.1 M.2.2.2.2.1 (nI n) M.2.2.2.2.2.1 M.2.2.2.2.2.2.1 M.2.2.2.2.2.2.2 w (nI ga) mg mn ms (nI c) m3 (nI T) (nI ua) mA mB mM nm' mP bR bS mU mt = some (F, r', l', n', p', b', 5, sp', wd', C.2.2.2.1, R) := fun e => by
        rw [f_X13_readLine, y0, bd_s, if_pos z00, y1, bd_s, if_neg n10, astF hc e, bd_s]
        exact ⟨_, rfl⟩
      rcases hT with hT | hT
      · obtain ⟨c0, -, -⟩ := hT0 hT
        have e6 := lbF6 (a := nI c) (L := 5) (f := 0) (r := M.1) (l := M.2.1) (nn := M.2.2.1) (p := M.2.2.2.1) (b := M.2.2.2.2.1) (N := nI n) (sp := M.2.2.2.2.2.2.1) (wd := M.2.2.2.2.2.2.2) (w := w) (mt := mt) hs (by rw [c0]; decide)
        rw [← hp] at e6
        exact Or.inl (q_lineF k hR T g nr sc th mg mn ms m3 num w 6 (by decide) (mbe.trans (told0 _ _ _ hT)) (rl (by rw [hT, ← hp]; exact e6)))
      · by_cases z : c = 5
        · have e5 := lbF5 (a := 5) (f := 0) (r := M.1) (l := M.2.1) (nn := M.2.2.1) (p := M.2.2.2.1) (b := M.2.2.2.2.1) (N := nI n) (sp := M.2.2.2.2.2.2.1) (wd := M.2.2.2.2.2.2.2) (w := w) (td := nI T) (mt := mt) hs
          refine Or.inl (q_lineF k hR T g nr sc th mg mn ms m3 num w 5 (by decide) (mbe.trans ?_) (rl (by rw [show nI c = (5 : Int32) by rw [z]; rfl, hp]; exact e5)))
          rw [f_X7_mayBegin_71, if_neg (n1 hT), if_neg n10, if_pos (show (5 : Int32) ≤ nI c by rw [z]; decide), many]
        · have mb : f_X7_mayBegin (nI ga) (nI T) (nI ua) (nI c) 0 C.1 C.2.2.2.2.2 = some (1, 0) := by
            rw [mbe, f_X7_mayBegin_71, if_neg (n1 hT), if_neg n10, if_neg (show ¬ (5 : Int32) ≤ nI c from nI_ge (b := 5) (by omega) (by omega)), f_X7_mayBegin_100, if_pos z00, f_X7_mayBegin_112, if_pos z00, may]
          subst hT
          rcases q_lineStack hn h k k1 (SL := SL) (SR := SR) (bS := bS) (bR := bR) (show c < 5 by omega) hnm w with ⟨C', M', q', m, r, W, e1, m2, m12, rlt, e2, e3, e4⟩ | ⟨F, C', M', f0, e1, e2, e3⟩
          · refine Or.inr ⟨g, nr, sc, th, mg, mn, ms, m3, num, c + 1, ua, ga, q', upd SL c (nI m), upd SR c (nI r), upd bS c (nI m), upd bR c (nI r), uS, uP, mU, mP, aS, aD, aL, mA, mB, mM, vp_updL nm c W, vp_updL nm' c W, C', M', k1, mb, ?_, ?_, e1, e4, ⟨⟨by omega, hu, hg, ?_, ?_, ?_⟩, ?_, hD⟩, hH rfl⟩
            · rw [f_X7_readsLine, x0, bd_s, if_pos z00, x1, bd_s, if_neg n10, e2, bd_s, gd_t _ (Or.inr rfl)]; rfl
            · rw [f_X13_readLine, y0, bd_s, if_pos z00, y1, bd_s, if_neg n10, show (nI 1 : Int32) = 1 from rfl, e3, bd_s]
            · intro s hs
              by_cases y : s = c
              · subst y
                exact ⟨m, r, m2, m12, rlt, pk_us, pk_us, pk_us, pk_us⟩
              · obtain ⟨m', r', o⟩ := hS s (by omega)
                rw [pk_un y, pk_un y, pk_un y, pk_un y]
                exact ⟨m', r', o⟩
            · intro i hi
              obtain ⟨s, m', k', o1, o2, o⟩ := hU i hi
              exact ⟨s, m', k', by omega, by rw [pk_un (by omega)]; exact o2, o⟩
            · intro i hi
              obtain ⟨s, m', k', o1, o⟩ := hG i hi
              exact ⟨s, m', k', by omega, o⟩
            · intro s hs
              by_cases y : s = c
              · subst y; unfold vp_updL; rw [if_pos rfl, if_pos rfl]
              · unfold vp_updL; rw [if_neg y, if_neg y]; exact hnm s (by omega)
          · refine Or.inl ⟨F, C'.2.2.2.1, f0, Or.inr ⟨mb, ?_⟩, ?_⟩
            · rw [f_X7_readsLine, x0, bd_s, if_pos z00, x1, bd_s, if_neg n10, e1, bd_s, gd_t _ (Or.inl rfl)]
              exact ⟨_, rfl, rfl, rfl, rfl⟩
            · rw [f_X13_readLine, y0, bd_s, if_pos z00, y1, bd_s, if_neg n10, show (nI 1 : Int32) = 1 from rfl, e3, bd_s]
              exact ⟨_, rfl, rfl, e2, rfl⟩
    · rcases a2 with ⟨x2, y2, k1⟩ | ⟨x2, y2⟩
      · have b3 := isW_ex (i := 2) (j := 3) (by decide) (by decide) (by decide) x2
        have mbe : f_X7_mayBegin (nI ga) (nI T) (nI ua) (nI c) 0 C.1 C.2.2.2.2.2 = f_X7_mayBegin_71 0 1 0 (nI ga) (nI T) (nI ua) (nI c) 0 C.1 C.2.2.2.2.2 := by rw [f_X7_mayBegin, x0, bd_s, if_pos z00, x1, bd_s, x2, bd_s, b3, bd_s, if_pos z00, if_neg n10]
        have rl : ∀ {F r' l' n' p' b' sp' : Int32} {wd' : Int64}, f_X13_lineBegins (nI ua) 4 0 M.1 M.2.1 M.2.2.1 M.2.2.2.1 M.2.2.2.2.1 (nI n) M.2.2.2.2.2.1 M.2.2.2.2.2.2.1 M.2.2.2.2.2.2.2 w (nI T) mt = some (F, r', l', n', p', b', 5, sp', wd', C.2.2.2.1) → ∃ R, f_X13_readLine 0 M.1 M.2.1 M.2.2.1 M.2.2.2.1 M.2.2.2.2.1 (nI n) M.2.2.2.2.2.1 M.2.2.2.2.2.2.1 M.2.2.2.2.2.2.2 w (nI ga) mg mn ms (nI c) m3 (nI T) (nI ua) mA mB mM nm' mP bR bS mU mt = some (F, r', l', n', p', b', 5, sp', wd', C.2.2.2.1, R) := fun e => by
          rw [f_X13_readLine, y0, bd_s, if_pos z00, y1, bd_s, if_pos z00, y2, bd_s, if_neg n10, unsF hc e, bd_s]
          exact ⟨_, rfl⟩
        rcases hT with hT | hT
        · obtain ⟨-, c0, -⟩ := hT0 hT
          have e6 := lbF6 (a := nI ua) (L := 4) (f := 0) (r := M.1) (l := M.2.1) (nn := M.2.2.1) (p := M.2.2.2.1) (b := M.2.2.2.2.1) (N := nI n) (sp := M.2.2.2.2.2.2.1) (wd := M.2.2.2.2.2.2.2) (w := w) (mt := mt) hs (by rw [c0]; decide)
          rw [← hp] at e6
          exact Or.inl (q_lineF k hR T g nr sc th mg mn ms m3 num w 6 (by decide) (mbe.trans (told0 _ _ _ hT)) (rl (by rw [hT, ← hp]; exact e6)))
        · by_cases z : ua = 4
          · have e5 := lbF5 (a := 4) (f := 0) (r := M.1) (l := M.2.1) (nn := M.2.2.1) (p := M.2.2.2.1) (b := M.2.2.2.2.1) (N := nI n) (sp := M.2.2.2.2.2.2.1) (wd := M.2.2.2.2.2.2.2) (w := w) (td := nI T) (mt := mt) hs
            refine Or.inl (q_lineF k hR T g nr sc th mg mn ms m3 num w 5 (by decide) (mbe.trans ?_) (rl (by rw [show nI ua = (4 : Int32) by rw [z]; rfl, hp]; exact e5)))
            rw [f_X7_mayBegin_71, if_neg (n1 hT), if_pos z00, f_X7_mayBegin_100, if_neg n10, if_pos (show (4 : Int32) ≤ nI ua by rw [z]; decide), many]
          · have mb : f_X7_mayBegin (nI ga) (nI T) (nI ua) (nI c) 0 C.1 C.2.2.2.2.2 = some (1, 0) := by
              rw [mbe, f_X7_mayBegin_71, if_neg (n1 hT), if_pos z00, f_X7_mayBegin_100, if_neg n10, if_neg (show ¬ (4 : Int32) ≤ nI ua from nI_ge (b := 4) (by omega) (by omega)), f_X7_mayBegin_112, if_pos z00, may]
            subst hT
            rcases q_lineUnsure hn h k k1 hR (show ua < 4 by omega) w with ⟨C', M', q', s, m, v, e1, sc', sl, m12, vm, e2, e3, e4⟩ | ⟨F, C', M', f0, e1, e2, e3⟩
            · refine Or.inr ⟨g, nr, sc, th, mg, mn, ms, m3, num, c, ua + 1, ga, q', SL, SR, bS, bR, upd uS ua (nI s), upd uP ua (nI v), upd mU ua (nI s), upd mP ua (nI v), aS, aD, aL, mA, mB, mM, nm, nm', C', M', k1, mb, ?_, ?_, e1, e4, ⟨⟨hc, by omega, hg, hS, ?_, hG⟩, hnm, hD⟩, hH rfl⟩
              · rw [f_X7_readsLine, x0, bd_s, if_pos z00, x1, bd_s, if_pos z00, x2, bd_s, if_neg n10, e2, bd_s, gd_t _ (Or.inr rfl)]; rfl
              · rw [f_X13_readLine, y0, bd_s, if_pos z00, y1, bd_s, if_pos z00, y2, bd_s, if_neg n10, show (nI 1 : Int32) = 1 from rfl, e3, bd_s]
              · intro i hi
                by_cases y : i = ua
                · subst y
                  exact ⟨s, m, v, sc', sl, m12, vm, pk_us, pk_us, pk_us, pk_us⟩
                · rw [pk_un y, pk_un y, pk_un y, pk_un y]
                  exact hU i (by omega)
            · refine Or.inl ⟨F, C'.2.2.2.1, f0, Or.inr ⟨mb, ?_⟩, ?_⟩
              · rw [f_X7_readsLine, x0, bd_s, if_pos z00, x1, bd_s, if_pos z00, x2, bd_s, if_neg n10, e1, bd_s, gd_t _ (Or.inl rfl)]
                exact ⟨_, rfl, rfl, rfl, rfl⟩
              · rw [f_X13_readLine, y0, bd_s, if_pos z00, y1, bd_s, if_pos z00, y2, bd_s, if_neg n10, show (nI 1 : Int32) = 1 from rfl, e3, bd_s]
                exact ⟨_, rfl, rfl, e2, rfl⟩
      · rcases a3 with ⟨x3, y3, k1⟩ | ⟨x3, y3⟩
        · have mbe : f_X7_mayBegin (nI ga) (nI T) (nI ua) (nI c) 0 C.1 C.2.2.2.2.2 = f_X7_mayBegin_71 0 0 1 (nI ga) (nI T) (nI ua) (nI c) 0 C.1 C.2.2.2.2.2 := by rw [f_X7_mayBegin, x0, bd_s, if_pos z00, x1, bd_s, x2, bd_s, x3, bd_s, if_pos z00, if_pos z00, if_neg n10]
          have rl : ∀ {F r' l' n' p' b' sp' : Int32} {wd' : Int64}, f_X13_lineBegins (nI ga) 6 0 M.1 M.2.1 M.2.2.1 M.2.2.2.1 M.2.2.2.2.1 (nI n) M.2.2.2.2.2.1 M.2.2.2.2.2.2.1 M.2.2.2.2.2.2.2 w (nI T) mt = some (F, r', l', n', p', b', 5, sp', wd', C.2.2.2.1) → ∃ R, f_X13_readLine 0 M.1 M.2.1 M.2.2.1 M.2.2.2.1 M.2.2.2.2.1 (nI n) M.2.2.2.2.2.1 M.2.2.2.2.2.2.1 M.2.2.2.2.2.2.2 w (nI ga) mg mn ms (nI c) m3 (nI T) (nI ua) mA mB mM nm' mP bR bS mU mt = some (F, r', l', n', p', b', 5, sp', wd', C.2.2.2.1, R) := fun e => by
            rw [f_X13_readLine, y0, bd_s, if_pos z00, y1, bd_s, if_pos z00, y2, bd_s, if_pos z00, y3, bd_s, if_neg n10, agrF hc e, bd_s]
            exact ⟨_, rfl⟩
          rcases hT with hT | hT
          · obtain ⟨-, -, c0⟩ := hT0 hT
            have e6 := lbF6 (a := nI ga) (L := 6) (f := 0) (r := M.1) (l := M.2.1) (nn := M.2.2.1) (p := M.2.2.2.1) (b := M.2.2.2.2.1) (N := nI n) (sp := M.2.2.2.2.2.2.1) (wd := M.2.2.2.2.2.2.2) (w := w) (mt := mt) hs (by rw [c0]; decide)
            rw [← hp] at e6
            exact Or.inl (q_lineF k hR T g nr sc th mg mn ms m3 num w 6 (by decide) (mbe.trans (told0 _ _ _ hT)) (rl (by rw [hT, ← hp]; exact e6)))
          · by_cases z : ga = 6
            · have e5 := lbF5 (a := 6) (f := 0) (r := M.1) (l := M.2.1) (nn := M.2.2.1) (p := M.2.2.2.1) (b := M.2.2.2.2.1) (N := nI n) (sp := M.2.2.2.2.2.2.1) (wd := M.2.2.2.2.2.2.2) (w := w) (td := nI T) (mt := mt) hs
              refine Or.inl (q_lineF k hR T g nr sc th mg mn ms m3 num w 5 (by decide) (mbe.trans ?_) (rl (by rw [show nI ga = (6 : Int32) by rw [z]; rfl, hp]; exact e5)))
              rw [f_X7_mayBegin_71, if_neg (n1 hT), if_pos z00, f_X7_mayBegin_100, if_pos z00, f_X7_mayBegin_112, if_neg n10, if_neg (show ¬ nI ga < (6 : Int32) by rw [z]; decide), many]
            · have mb : f_X7_mayBegin (nI ga) (nI T) (nI ua) (nI c) 0 C.1 C.2.2.2.2.2 = some (1, 0) := by
                rw [mbe, f_X7_mayBegin_71, if_neg (n1 hT), if_pos z00, f_X7_mayBegin_100, if_pos z00, f_X7_mayBegin_112, if_neg n10, if_pos (show nI ga < (6 : Int32) from nI_lt (b := 6) (by omega) (by omega)), may]
              subst hT
              rcases q_lineAgreed hn h k k1 hR (show ga < 6 by omega) w with ⟨C', M', q', s, d, l, e1, sc', d1, d36, l36, e2, e3, e4⟩ | ⟨F, C', M', f0, e1, e2, e3⟩
              · refine Or.inr ⟨g, nr, sc, th, mg, mn, ms, m3, num, c, ua, ga + 1, q', SL, SR, bS, bR, uS, uP, mU, mP, upd aS ga (nI s), upd aD ga (nI d), upd aL ga (nI l), upd mA ga (nI s), upd mB ga (nI d), upd mM ga (nI l), nm, nm', C', M', k1, mb, ?_, ?_, e1, e4, ⟨⟨hc, hu, by omega, hS, hU, ?_⟩, hnm, ?_⟩, hH rfl⟩
                · rw [f_X7_readsLine, x0, bd_s, if_pos z00, x1, bd_s, if_pos z00, x2, bd_s, if_pos z00, e2, bd_s, gd_t _ (Or.inr rfl)]; rfl
                · rw [f_X13_readLine, y0, bd_s, if_pos z00, y1, bd_s, if_pos z00, y2, bd_s, if_pos z00, y3, bd_s, if_neg n10, show (nI 1 : Int32) = 1 from rfl, e3, bd_s]
                · intro i hi
                  by_cases y : i = ga
                  · subst y
                    exact ⟨s, d, l, sc', d36, l36, pk_us, pk_us, pk_us, pk_us, pk_us, pk_us⟩
                  · rw [pk_un y, pk_un y, pk_un y, pk_un y, pk_un y, pk_un y]
                    exact hG i (by omega)
                · intro i hi
                  by_cases y : i = ga
                  · subst y
                    exact ⟨d, d1, d36, pk_us⟩
                  · rw [pk_un y]
                    exact hD i (by omega)
              · refine Or.inl ⟨F, C'.2.2.2.1, f0, Or.inr ⟨mb, ?_⟩, ?_⟩
                · rw [f_X7_readsLine, x0, bd_s, if_pos z00, x1, bd_s, if_pos z00, x2, bd_s, if_pos z00, e1, bd_s, gd_t _ (Or.inl rfl)]
                  exact ⟨_, rfl, rfl, rfl, rfl⟩
                · rw [f_X13_readLine, y0, bd_s, if_pos z00, y1, bd_s, if_pos z00, y2, bd_s, if_pos z00, y3, bd_s, if_neg n10, show (nI 1 : Int32) = 1 from rfl, e3, bd_s]
                  exact ⟨_, rfl, rfl, e2, rfl⟩
        · refine Or.inl (q_lineF k hR T g nr sc th mg mn ms m3 num w 1 (by decide) (none_ x1 x2 x3) (r' := M.1) (l' := M.2.1) (n' := M.2.2.1) (p' := M.2.2.2.1) (b' := M.2.2.2.2.1) (sp' := M.2.2.2.2.2.2.1) (wd' := M.2.2.2.2.2.2.2) ?_)
          rw [f_X13_readLine, y0, bd_s, if_pos z00, y1, bd_s, if_pos z00, y2, bd_s, if_pos z00, y3, bd_s, if_pos z00, flN hs, bd_s, hp]
          exact ⟨_, rfl⟩
