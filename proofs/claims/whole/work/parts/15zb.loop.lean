/-! THE LOOP OF LINES -/
theorem ra33 {N s : Int32} (hs : s = 5) (f r l nn p b sp w a1 a2 a3 a4 a5 a6 a7 a8 : Int32) (wd : Int64) (b1 b2 b3 b4 b5 b6 b7 mt : Nat → Int32) (nm : Nat → Int64) : ∃ Z : Int32 × Int32 × Int32 × Int32 × Int32 × Int32 × Int32 × Int32 × Int64 × Int32 × Int32 × Int32 × Int32 × Int32 × Int32 × Int32 × Int32 × Int32 × (Nat → Int32) × (Nat → Int32) × (Nat → Int32) × (Nat → Int64) × (Nat → Int32) × (Nat → Int32) × (Nat → Int32) × (Nat → Int32), f_X13_readAll_33 f r l nn p b N s sp wd w a1 a2 a3 a4 a5 a6 a7 a8 b1 b2 b3 nm b4 b5 b6 b7 mt = some Z ∧ Z.1 = f ∧ Z.2.2.2.2.2.2.2.2.2.1 = w := by
  have e : f_X13_readAll_33 f r l nn p b N s sp wd w a1 a2 a3 a4 a5 a6 a7 a8 b1 b2 b3 nm b4 b5 b6 b7 mt = some (f, r, l, nn, p, b, s, sp, wd, w, a1, a2, a3, a4, a5, a6, a7, a8, b1, b2, b3, nm, b4, b5, b6, b7) := by
    rw [f_X13_readAll_33]
    by_cases z : a5 = 0
    · rw [if_pos z, fl5 hs, bd_s]
    · rw [if_neg z]
  rw [e]
  exact ⟨_, rfl, rfl, rfl⟩
theorem ra5 {N s : Int32} (k : Nat) (hs : s = 5) (f r l nn p b sp w a1 a2 a3 a4 a5 a6 a7 a8 : Int32) (wd : Int64) (b1 b2 b3 b4 b5 b6 b7 mt : Nat → Int32) (nm : Nat → Int64) : ∃ Z : Int32 × Int32 × Int32 × Int32 × Int32 × Int32 × Int32 × Int32 × Int64 × Int32 × Int32 × Int32 × Int32 × Int32 × Int32 × Int32 × Int32 × Int32 × (Nat → Int32) × (Nat → Int32) × (Nat → Int32) × (Nat → Int64) × (Nat → Int32) × (Nat → Int32) × (Nat → Int32) × (Nat → Int32), f_X13_readAll_2 (k + 1) 0 f r l nn p b N s sp wd w a1 a2 a3 a4 a5 a6 a7 a8 b1 b2 b3 nm b4 b5 b6 b7 mt = some Z ∧ Z.1 = f ∧ Z.2.2.2.2.2.2.2.2.2.1 = w := by
  rw [f_X13_readAll_2, if_pos z00, if_neg (by rw [hs]; decide), fl5 hs, bd_s]
  exact ra33 hs f r l nn p b sp w a1 a2 a3 a4 a5 a6 a7 a8 wd b1 b2 b3 b4 b5 b6 b7 mt nm
theorem ra1 {N s : Int32} (k : Nat) (hs : ¬ s = 5) (h1 : ¬ s = 1) (f r l nn p b sp w a1 a2 a3 a4 a5 a6 a7 a8 : Int32) (wd : Int64) (b1 b2 b3 b4 b5 b6 b7 mt : Nat → Int32) (nm : Nat → Int64) : ∃ Z : Int32 × Int32 × Int32 × Int32 × Int32 × Int32 × Int32 × Int32 × Int64 × Int32 × Int32 × Int32 × Int32 × Int32 × Int32 × Int32 × Int32 × Int32 × (Nat → Int32) × (Nat → Int32) × (Nat → Int32) × (Nat → Int64) × (Nat → Int32) × (Nat → Int32) × (Nat → Int32) × (Nat → Int32), f_X13_readAll_2 (k + 1) 0 f r l nn p b N s sp wd w a1 a2 a3 a4 a5 a6 a7 a8 b1 b2 b3 nm b4 b5 b6 b7 mt = some Z ∧ Z.1 = 1 ∧ Z.2.2.2.2.2.2.2.2.2.1 = p := by
  rw [f_X13_readAll_2, if_pos z00, if_neg h1, flN hs, bd_s]
  exact ra33 rfl 1 r l nn p b sp p a1 a2 a3 a4 a5 a6 a7 a8 wd b1 b2 b3 b4 b5 b6 b7 mt nm
theorem ea0 {n : Nat} {M : Int32 × Int32 × Int32 × Int32 × Int32 × Int32 × Int32 × Int64} {mt : Nat → Int32} (b : ¬ (M.2.2.2.2.2.1 = 4 ∧ M.2.2.1 = 59)) : f_X13_eats 59 M.1 M.2.1 M.2.2.1 M.2.2.2.1 M.2.2.2.2.1 (nI n) M.2.2.2.2.2.1 M.2.2.2.2.2.2.1 M.2.2.2.2.2.2.2 mt = some (0, M.1, M.2.1, M.2.2.1, M.2.2.2.1, M.2.2.2.2.1, M.2.2.2.2.2.1, M.2.2.2.2.2.2.1, M.2.2.2.2.2.2.2) := by
  have y : f_X13_eats_20 M.1 M.2.1 M.2.2.1 M.2.2.2.1 M.2.2.2.2.1 (nI n) M.2.2.2.2.2.1 M.2.2.2.2.2.2.1 M.2.2.2.2.2.2.2 mt = some (0, M.1, M.2.1, M.2.2.1, M.2.2.2.1, M.2.2.2.2.1, M.2.2.2.2.2.1, M.2.2.2.2.2.2.1, M.2.2.2.2.2.2.2) := by rw [f_X13_eats_20, f_X13_eats_21, if_pos z00, gd_t _ (Or.inl rfl)]
  rw [f_X13_eats]
  by_cases z : M.2.2.2.2.2.1 = 4
  · rw [if_pos z, if_neg (fun z' => b ⟨z, z'⟩), y]
  · rw [if_neg z, y]
theorem TK_w {tb : Nat → Int32} {B n : Nat} {C : Int32 × Int32 × Int32 × Int32 × Int32 × Int64} {M : Int32 × Int32 × Int32 × Int32 × Int32 × Int32 × Int32 × Int64} {q : Nat} (k : TK tb B n C M q) (c1 : C.1 = 1) : ¬ M.2.2.2.2.2.1 = 4 := by
  obtain ⟨p, cp, mp, o⟩ := k
  rcases o with ⟨c, m⟩ | ⟨-, -, -, -, ⟨c, m⟩ | ⟨-, ⟨c, m, -⟩ | ⟨c, m, -⟩ | ⟨c, m, -⟩⟩⟩
  · rw [m]; decide
  · rw [m]; decide
  · rw [m]; decide
  · rw [m]; decide
  · rw [c] at c1; exact absurd c1 (by decide)
theorem q_reads_l {tb mt : Nat → Int32} {n : Nat} (hn : n ≤ 500) (h : ∀ i, i < n → tb i = mt i) (w : Int32) : ∀ (f f' x B : Nat) (C : Int32 × Int32 × Int32 × Int32 × Int32 × Int64) (M : Int32 × Int32 × Int32 × Int32 × Int32 × Int32 × Int32 × Int64) (q c ua ga T : Nat) (SL SR bS bR uS uP mU mP aS aD aL mA mB mM : Nat → Int32) (nm nm' : Nat → Int64) (g nr sc th mg mn ms m3 num : Int32), TK tb B n C M q → RD c ua ga SL SR bS bR uS uP mU mP aS aD aL mA mB mM nm nm' → (T = 0 ∨ T = 1) → (T = 0 → c = 0 ∧ ua = 0 ∧ ga = 0) → (T = 1 → HD g nr sc th mg mn ms m3) → x ≤ 500 → x ≤ q → 502 ≤ f + x → 504 ≤ f' + x →
    (∃ O Z, 0 < O.2.2.2.2.2.2.2.2.2.2.1 ∧ f_X7_reads_25 f (nI x) (nI ga) (nI T) g nr sc th (nI ua) (nI c) (nI n) 0 C.1 C.2.1 C.2.2.1 num C.2.2.2.1 C.2.2.2.2.1 C.2.2.2.2.2 aD aL aS nm SL SR uP uS tb = some O ∧ O.1 = 0 ∧ f_X13_readAll_2 f' 1 0 M.1 M.2.1 M.2.2.1 M.2.2.2.1 M.2.2.2.2.1 (nI n) M.2.2.2.2.2.1 M.2.2.2.2.2.2.1 M.2.2.2.2.2.2.2 w (nI ga) mg mn ms (nI c) m3 (nI T) (nI ua) mA mB mM nm' mP bR bS mU mt = some Z ∧ Z.1 = O.2.2.2.2.2.2.2.2.2.2.1 ∧ Z.2.2.2.2.2.2.2.2.2.1 = O.2.2.2.2.2.2.2.2.2.2.2.2.2.2.2.1) ∨
    (∃ (g' nr' sc' th' mg' mn' ms' m3' nu : Int32) (c' ua' ga' : Nat) (SL' SR' bS' bR' uS' uP' mU' mP' aS' aD' aL' mA' mB' mM' : Nat → Int32) (na na' : Nat → Int64) (C' : Int32 × Int32 × Int32 × Int32 × Int32 × Int64) (M' : Int32 × Int32 × Int32 × Int32 × Int32 × Int32 × Int32 × Int64), f_X7_reads_25 f (nI x) (nI ga) (nI T) g nr sc th (nI ua) (nI c) (nI n) 0 C.1 C.2.1 C.2.2.1 num C.2.2.2.1 C.2.2.2.2.1 C.2.2.2.2.2 aD aL aS nm SL SR uP uS tb = some (1, nI ga', 1, g', nr', sc', th', nI ua', nI c', nI n, 0, C'.1, C'.2.1, C'.2.2.1, nu, C'.2.2.2.1, C'.2.2.2.2.1, C'.2.2.2.2.2, aD', aL', aS', na, SL', SR', uP', uS') ∧ f_X13_readAll_2 f' 1 0 M.1 M.2.1 M.2.2.1 M.2.2.2.1 M.2.2.2.2.1 (nI n) M.2.2.2.2.2.1 M.2.2.2.2.2.2.1 M.2.2.2.2.2.2.2 w (nI ga) mg mn ms (nI c) m3 (nI T) (nI ua) mA mB mM nm' mP bR bS mU mt = some (0, M'.1, M'.2.1, M'.2.2.1, M'.2.2.2.1, M'.2.2.2.2.1, M'.2.2.2.2.2.1, M'.2.2.2.2.2.2.1, M'.2.2.2.2.2.2.2, w, nI ga', mg', mn', ms', nI c', m3', 1, nI ua', mA', mB', mM', na', mP', bR', bS', mU') ∧ 1 ≤ c' ∧ RD c' ua' ga' SL' SR' bS' bR' uS' uP' mU' mP' aS' aD' aL' mA' mB' mM' na na' ∧ HD g' nr' sc' th' mg' mn' ms' m3')
  | 0, _, _, _, _, _, _, _, _, _, _, _, _, _, _, _, _, _, _, _, _, _, _, _, _, _, _, _, _, _, _, _, _, _, _, _, _, _, _, _, _, hx, _, hf, _ => by omega
  | _ + 1, 0, _, _, _, _, _, _, _, _, _, _, _, _, _, _, _, _, _, _, _, _, _, _, _, _, _, _, _, _, _, _, _, _, _, _, _, _, _, _, _, hx, _, _, hf => by omega
  | _ + 1, 1, _, _, _, _, _, _, _, _, _, _, _, _, _, _, _, _, _, _, _, _, _, _, _, _, _, _, _, _, _, _, _, _, _, _, _, _, _, _, _, hx, _, _, hf => by omega
  | f + 1, f' + 2, x, B, C, M, q, c, ua, ga, T, SL, SR, bS, bR, uS, uP, mU, mP, aS, aD, aL, mA, mB, mM, nm, nm', g, nr, sc, th, mg, mn, ms, m3, num, k, hR, hT, hT0, hH, hx, hq, hf, hf' => by
    obtain ⟨B', kB, hB⟩ : ∃ B', TK tb B' n C M q ∧ (¬ M.2.2.2.2.2.1 = 4 → B' = q) := by
      by_cases h4 : M.2.2.2.2.2.1 = 4
      · exact ⟨B, k, fun z => absurd h4 z⟩
      · exact ⟨q, TK_B k h4, fun _ => rfl⟩
    rw [f_X7_reads_25, if_neg (show ¬ (500 : Int32) < nI x from nI_nlt (a := 500) hx (by omega)), f_X13_readAll_2, if_neg n10]
    rcases q_line hn h kB hR T hT hT0 hH num w with ⟨F, P, f0, cl, Z, z1, z2, z3, z4⟩ | ⟨g', nr', sc', th', mg', mn', ms', m3', nu, c', ua', ga', q', SL', SR', bS', bR', uS', uP', mU', mP', aS', aD', aL', mA', mB', mM', na, na', C', M', k1, e1, e2, e3, e4, e5, e6, e7⟩
    · refine Or.inl ?_
      rw [z1, bd_s]; (try dsimp only); rw [ ea5 z3, bd_s]
      obtain ⟨Z', y1, y2, y3⟩ := ra5 (N := nI n) f' z3 (Z.1) (Z.2.1) (Z.2.2.1) (Z.2.2.2.1) (Z.2.2.2.2.1) (Z.2.2.2.2.2.1) (Z.2.2.2.2.2.2.2.1) (Z.2.2.2.2.2.2.2.2.2.1) (Z.2.2.2.2.2.2.2.2.2.2.1) (Z.2.2.2.2.2.2.2.2.2.2.2.1) (Z.2.2.2.2.2.2.2.2.2.2.2.2.1) (Z.2.2.2.2.2.2.2.2.2.2.2.2.2.1) (Z.2.2.2.2.2.2.2.2.2.2.2.2.2.2.1) (Z.2.2.2.2.2.2.2.2.2.2.2.2.2.2.2.1) (Z.2.2.2.2.2.2.2.2.2.2.2.2.2.2.2.2.1) (Z.2.2.2.2.2.2.2.2.2.2.2.2.2.2.2.2.2.1) Z.2.2.2.2.2.2.2.2.1 (Z.2.2.2.2.2.2.2.2.2.2.2.2.2.2.2.2.2.2.1) (Z.2.2.2.2.2.2.2.2.2.2.2.2.2.2.2.2.2.2.2.1) (Z.2.2.2.2.2.2.2.2.2.2.2.2.2.2.2.2.2.2.2.2.1) (Z.2.2.2.2.2.2.2.2.2.2.2.2.2.2.2.2.2.2.2.2.2.2.1) (Z.2.2.2.2.2.2.2.2.2.2.2.2.2.2.2.2.2.2.2.2.2.2.2.1) (Z.2.2.2.2.2.2.2.2.2.2.2.2.2.2.2.2.2.2.2.2.2.2.2.2.1) (Z.2.2.2.2.2.2.2.2.2.2.2.2.2.2.2.2.2.2.2.2.2.2.2.2.2) mt Z.2.2.2.2.2.2.2.2.2.2.2.2.2.2.2.2.2.2.2.2.2.1
      rcases cl with ⟨e, eP⟩ | ⟨e, O, o1, o2, o3, o4⟩
      · rw [e, bd_s]; (try dsimp only); rw [ if_pos z00]
        exact ⟨_, Z', f0, rfl, rfl, y1, y2.trans z2, y3.trans (z4.trans eP.symm)⟩
      · rw [e, bd_s]; (try dsimp only); rw [ if_neg n10, o1, bd_s]; (try dsimp only); rw [ if_pos o2]
        exact ⟨_, Z', by rw [o3]; exact f0, rfl, rfl, y1, y2.trans (z2.trans o3.symm), y3.trans (z4.trans o4.symm)⟩
    · have eq := hB (TK_w kB k1)
      subst eq
      obtain ⟨hs, hp⟩ := TK_s e5
      rw [e1, bd_s]; (try dsimp only); rw [ if_neg n10, e2, bd_s]; (try dsimp only); rw [ if_neg n10, e3, bd_s]; (try dsimp only)
      have cs : (C'.1 = 0 ∧ M'.2.2.2.2.2.1 = 1) ∨ (C'.1 = 3 ∧ M'.2.2.2.2.2.1 = 4 ∧ C'.2.2.2.2.1 = 59 ∧ M'.2.2.1 = 59 ∧ x + 1 ≤ q' ∧ q' ≤ n) ∨ (¬ C'.1 = 0 ∧ ¬ (C'.1 = 3 ∧ C'.2.2.2.2.1 = 59) ∧ ¬ M'.2.2.2.2.2.1 = 1 ∧ ¬ (M'.2.2.2.2.2.1 = 4 ∧ M'.2.2.1 = 59)) := by
        obtain ⟨p, cp, mp, o⟩ := e5
        rcases o with ⟨c, m⟩ | ⟨-, hq', -, -, ⟨c, m⟩ | ⟨-, ⟨c, m, -⟩ | ⟨c, m, -⟩ | ⟨c, m, cv, -, lt⟩⟩⟩
        · exact Or.inr (Or.inr ⟨by rw [c]; decide, fun z => by rw [c] at z; exact absurd z.1 (by decide), by rw [m]; decide, fun z => by rw [m] at z; exact absurd z.1 (by decide)⟩)
        · exact Or.inl ⟨c, m⟩
        · exact Or.inr (Or.inr ⟨by rw [c]; decide, fun z => by rw [c] at z; exact absurd z.1 (by decide), by rw [m]; decide, fun z => by rw [m] at z; exact absurd z.1 (by decide)⟩)
        · exact Or.inr (Or.inr ⟨by rw [c]; decide, fun z => by rw [c] at z; exact absurd z.1 (by decide), by rw [m]; decide, fun z => by rw [m] at z; exact absurd z.1 (by decide)⟩)
        · by_cases z : M'.2.2.1 = 59
          · exact Or.inr (Or.inl ⟨c, m, cv.trans z, z, by omega, hq'⟩)
          · exact Or.inr (Or.inr ⟨by rw [c]; decide, fun y => z (cv.symm.trans y.2), by rw [m]; decide, fun y => z y.2⟩)
      rcases cs with ⟨c0, m1⟩ | ⟨c3, m4, cv, mv, lx, ln⟩ | ⟨n0, n3, m1, m4⟩
      · rw [if_pos c0, ea0 (fun z => by rw [m1] at z; exact absurd z.1 (by decide)), bd_s]; (try dsimp only); rw [f_X13_readAll_2, if_pos z00, if_pos m1, f_X13_readAll_33]
        by_cases z : c' = 0
        · refine Or.inl ?_
          rw [if_neg (show ¬ 0 < nI c' by rw [z]; decide), f_X7_fails, bd_s]; (try dsimp only); rw [ if_pos z00, if_pos (show nI c' = 0 by rw [z]; rfl), flN hs, bd_s]
          exact ⟨_, _, (by decide : (0 : Int32) < 6), rfl, rfl, rfl, rfl, hp.symm⟩
        · refine Or.inr ?_
          rw [if_pos (show 0 < nI c' from nI_lt (a := 0) (by omega) (by have := e6.1.1; omega)), if_neg (nI_ne0 (by omega) (by have := e6.1.1; omega))]
          exact ⟨g', nr', sc', th', mg', mn', ms', m3', nu, c', ua', ga', SL', SR', bS', bR', uS', uP', mU', mP', aS', aD', aL', mA', mB', mM', na, na', C', M', rfl, rfl, by omega, e6, e7⟩
      · obtain ⟨-, C2, M2, q2, a1, a2, a3, a4⟩ := adv hn h e5 (by rw [c3]; decide)
        rw [if_neg (show ¬ C'.1 = 0 by rw [c3]; decide), if_pos c3, if_pos cv, a2, f_X13_eats, if_pos m4, if_pos mv, f_X13_eats_21, if_neg n10, a3]
        repeat rw [bd_s]
        rw [gd_t _ (Or.inr rfl), bd_s, nI_1]
        exact q_reads_l hn h w f (f' + 1) (x + 1) _ C2 M2 q2 c' ua' ga' 1 SL' SR' bS' bR' uS' uP' mU' mP' aS' aD' aL' mA' mB' mM' na na' g' nr' sc' th' mg' mn' ms' m3' nu a4 e6 (Or.inr rfl) (fun z => absurd z (by decide)) (fun _ => e7) (by omega) (by omega) (by omega) (by omega)
      · have c99 : ∀ {y : Option _}, (if C'.1 = 3 then (if C'.2.2.2.2.1 = 59 then y else f_X7_reads_99 (nI ga') 1 g' nr' sc' th' (nI ua') (nI c') (nI n) 0 C'.1 C'.2.1 C'.2.2.1 nu C'.2.2.2.1 C'.2.2.2.2.1 C'.2.2.2.2.2 aD' aL' aS' na SL' SR' uP' uS' tb) else f_X7_reads_99 (nI ga') 1 g' nr' sc' th' (nI ua') (nI c') (nI n) 0 C'.1 C'.2.1 C'.2.2.1 nu C'.2.2.2.1 C'.2.2.2.2.1 C'.2.2.2.2.2 aD' aL' aS' na SL' SR' uP' uS' tb) = some (0, nI ga', 1, g', nr', sc', th', nI ua', nI c', nI n, 1, C'.1, C'.2.1, C'.2.2.1, nu, C'.2.2.2.1, C'.2.2.2.2.1, C'.2.2.2.2.2, aD', aL', aS', na, SL', SR', uP', uS') := fun {y} => by
          have e : f_X7_reads_99 (nI ga') 1 g' nr' sc' th' (nI ua') (nI c') (nI n) 0 C'.1 C'.2.1 C'.2.2.1 nu C'.2.2.2.1 C'.2.2.2.2.1 C'.2.2.2.2.2 aD' aL' aS' na SL' SR' uP' uS' tb = some (0, nI ga', 1, g', nr', sc', th', nI ua', nI c', nI n, 1, C'.1, C'.2.1, C'.2.2.1, nu, C'.2.2.2.1, C'.2.2.2.2.1, C'.2.2.2.2.2, aD', aL', aS', na, SL', SR', uP', uS') := by rw [f_X7_reads_99, f_X7_fails, bd_s]; (try dsimp only); rw [ gd_t _ (Or.inl rfl)]
          by_cases z : C'.1 = 3
          · rw [if_pos z, if_neg (fun y => n3 ⟨z, y⟩), e]
          · rw [if_neg z, e]
        obtain ⟨Z', y1, y2, y3⟩ := ra1 (N := nI n) f' hs m1 0 M'.1 M'.2.1 M'.2.2.1 M'.2.2.2.1 M'.2.2.2.2.1 M'.2.2.2.2.2.2.1 w (nI ga') mg' mn' ms' (nI c') m3' 1 (nI ua') M'.2.2.2.2.2.2.2 mA' mB' mM' mP' bR' bS' mU' mt na'
        refine Or.inl ?_
        rw [if_neg n0, c99, ea0 m4, bd_s]
        exact ⟨_, Z', (by decide : (0 : Int32) < 1), rfl, rfl, y1, y2, y3.trans hp.symm⟩
