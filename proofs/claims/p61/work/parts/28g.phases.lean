section RTP2
variable {tb : Nat → Int32} {e : Nat}
variable {c ua ga g : Nat} {x1 x2 x3 : Int32} {N0 R0 us up as_ am al : Nat → Nat}
theorem nI_p0 {n : Nat} (h : 1 ≤ n) (h2 : n < 2 ^ 31) : 0 < nI n := by
  have := nI_lt (a := 0) (b := n) h h2
  rw [nI_0] at this
  exact this
/-- the agreed layers -/
theorem phA (he : e ≤ 500) (hD : TD c ua ga N0 R0 us up as_ am al) {sl sr uP uS : Nat → Int32} {nm : Nat → Int64} (h1 : DS c N0 R0 sl sr) (h2 : DN c nm) (h3 : DU ua us up uS uP) : ∀ (m k x f p : Nat) (ln num pl vl : Int32) (aD aL aS : Nat → Int32), k + (m + 1) = ga → m < f → x + m ≤ 400 → DA k as_ am al aS aD aL → RT tb e p (32 :: (NL (as_ k) ++ 32 :: (dgs (am k) ++ 32 :: (dgs (al k) ++ many (liA as_ am al) (k + 1) m)))) → FIN c ua ga g x1 x2 x3 N0 R0 us up as_ am al (f_X7_reads_25 f (nI x) (nI k) 1 (nI g) x1 x2 x3 (nI ua) (nI c) (nI e) 0 1 ln (nI p) num pl vl (wdL 0 (WL 3)) aD aL aS nm sl sr uP uS tb)
  | _, _, _, 0, _, _, _, _, _, _, _, _, _, h, _, _, _ => absurd h (Nat.not_lt_zero _)
  | m, k, x, f + 1, p, ln, num, pl, vl, aD, aL, aS, hk, hf, hx, h4, h => by
    obtain ⟨⟨c1, c2⟩, u2, g2, dS, dU, dA⟩ := hD
    obtain ⟨q1, q2, q3, q4, q5⟩ := dA k (by omega)
    have ia : f_X4_isAgreed (nI (as_ k)) (nI (am k)) (nI k) aD aS = some 0 := by
      rw [f_X4_isAgreed, ← nI_0]
      exact isA0 (by omega) (fun i hi => ⟨(h4 i hi).1, (h4 i hi).2.1, (h4 i hi).2.2.1, (h4 i hi).2.2.2.1⟩) (by omega) (by omega) q5 kFU 0 (Nat.zero_le _) (by unfold kFU; omega)
    have n4 := DA_0 h4 (show as_ k < 100 by omega) (show am k < 100 by omega)
    have g6 : nI k < (6 : Int32) := nI_lt (b := 6) (by omega) (by decide)
    have RT' := RT_t (RT_t (RT_t h.2).2).2
    cases m with
    | zero =>
      have z := LnA he c2 q1 (show k < 2 by omega) q2 q3 q4 rfl h (CE he) h2 (aL := aL) ia 0 1 ln pl vl (wdL 0 (WL 3))
      have E := rd_end (x := x) (by omega) f (mb3 (ua := nI ua) (c := nI c) g6 0) (rl3 (cm := 1) (gr := nI g) (nr := x1) (sc := x2) (th := x3) (ua := nI ua) (sl := sl) (sr := sr) (uP := uP) (uS := uS) (num := num) z) rfl (nI_p0 c1 (by omega))
      rw [show k + 1 = ga by omega] at E n4
      exact ⟨_, _, _, _, _, _, _, _, _, _, _, _, _, _, _, _, E, h1, h3, n4⟩
    | succ m =>
      rw [many, liA_ap] at RT' h
      obtain ⟨t1, t2⟩ := CT he RT'
      have z := LnA he c2 q1 (show k < 2 by omega) q2 q3 q4 rfl h t1 h2 (aL := aL) ia 0 1 ln pl vl (wdL 0 (WL 3))
      obtain ⟨ln', p', pl', e1, e2⟩ := rd_go he (show x ≤ 500 by omega) f (mb3 (ua := nI ua) (c := nI c) g6 0) (rl3 (cm := 1) (gr := nI g) (nr := x1) (sc := x2) (th := x3) (ua := nI ua) (sl := sl) (sr := sr) (uP := uP) (uS := uS) (num := num) z) (show 3 < 8 by decide) rfl rfl t2
      rw [e1]
      exact phA he ⟨⟨c1, c2⟩, u2, g2, dS, dU, dA⟩ h1 h2 h3 m (k + 1) (x + 1) f p' _ _ _ _ _ _ _ (by omega) (by omega) (by omega) n4 e2
/-- the unsure steps -/
theorem phU (he : e ≤ 500) (hD : TD c ua ga N0 R0 us up as_ am al) {sl sr aD aL aS : Nat → Int32} {nm : Nat → Int64} (h1 : DS c N0 R0 sl sr) (h2 : DN c nm) : ∀ (m k x f p : Nat) (ln num pl vl : Int32) (uP uS : Nat → Int32), k + (m + 1) = ua → m + 5 < f → x + m ≤ 300 → DU k us up uS uP → RT tb e p (32 :: (NL (us k) ++ 32 :: (dgs (up k) ++ (many (liU us up) (k + 1) m ++ many (liA as_ am al) 0 ga)))) → FIN c ua ga g x1 x2 x3 N0 R0 us up as_ am al (f_X7_reads_25 f (nI x) (nI 0) 1 (nI g) x1 x2 x3 (nI k) (nI c) (nI e) 0 1 ln (nI p) num pl vl (wdL 0 (WL 2)) aD aL aS nm sl sr uP uS tb)
  | _, _, _, 0, _, _, _, _, _, _, _, _, h, _, _, _ => absurd h (Nat.not_lt_zero _)
  | m, k, x, f + 1, p, ln, num, pl, vl, uP, uS, hk, hf, hx, h4, h => by
    obtain ⟨⟨c1, c2⟩, u2, g2, dS, dU, dA⟩ := hD
    obtain ⟨q1, q2, q5⟩ := dU k (by omega)
    obtain ⟨s1, s2, s3⟩ := dS (us k) q1
    have ia : f_X4_isUnsure (nI (us k)) (nI (up k)) (nI k) uP uS = some 0 := by
      rw [f_X4_isUnsure, ← nI_0]
      exact isU0 (by omega) h4 (by omega) (by omega) q5 kFU 0 (Nat.zero_le _) (by unfold kFU; omega)
    have n4 := DU_0 h4 (show us k < 100 by omega) (show up k < 100 by omega)
    have g6 : ¬ (4 : Int32) ≤ nI k := nI_ge (b := 4) (by omega) (by decide)
    have RT' := RT_t (RT_t h.2).2
    have dA0 : DA 0 as_ am al aS aD aL := fun i hi => absurd hi (Nat.not_lt_zero _)
    cases m with
    | zero =>
      rw [many, List.nil_append] at RT' h
      rw [show k + 1 = ua by omega] at n4
      cases ga with
      | zero =>
        have z := LnU he c2 q1 (show k < 2 by omega) q2 s2 rfl h (CE he) h2 (h1 (us k) q1).1 ia 0 1 ln pl vl (wdL 0 (WL 2))
        have E := rd_end (x := x) (by omega) f (mb2 (ga := nI 0) (c := nI c) g6 0) (rl2 (ga := nI 0) (cm := 1) (gr := nI g) (nr := x1) (sc := x2) (th := x3) (aD := aD) (aL := aL) (aS := aS) (sr := sr) (num := num) z) rfl (nI_p0 c1 (by omega))
        rw [show k + 1 = ua by omega] at E
        exact ⟨_, _, _, _, _, _, _, _, _, _, _, _, _, _, _, _, E, h1, n4, dA0⟩
      | succ ga =>
        rw [many, liA_ap] at RT' h
        obtain ⟨t1, t2⟩ := CT he RT'
        have z := LnU he c2 q1 (show k < 2 by omega) q2 s2 rfl h t1 h2 (h1 (us k) q1).1 ia 0 1 ln pl vl (wdL 0 (WL 2))
        obtain ⟨ln', p', pl', e1, e2⟩ := rd_go he (show x ≤ 500 by omega) f (mb2 (ga := nI 0) (c := nI c) g6 0) (rl2 (ga := nI 0) (cm := 1) (gr := nI g) (nr := x1) (sc := x2) (th := x3) (aD := aD) (aL := aL) (aS := aS) (sr := sr) (num := num) z) (show 3 < 8 by decide) rfl rfl t2
        rw [e1, show k + 1 = ua by omega]
        exact phA he ⟨⟨c1, c2⟩, u2, g2, dS, dU, dA⟩ h1 h2 n4 ga 0 (x + 1) f p' _ _ _ _ _ _ _ (by omega) (by omega) (by omega) dA0 e2
    | succ m =>
      rw [many, List.append_assoc, liU_ap] at RT' h
      obtain ⟨t1, t2⟩ := CT he RT'
      have z := LnU he c2 q1 (show k < 2 by omega) q2 s2 rfl h t1 h2 (h1 (us k) q1).1 ia 0 1 ln pl vl (wdL 0 (WL 2))
      obtain ⟨ln', p', pl', e1, e2⟩ := rd_go he (show x ≤ 500 by omega) f (mb2 (ga := nI 0) (c := nI c) g6 0) (rl2 (ga := nI 0) (cm := 1) (gr := nI g) (nr := x1) (sc := x2) (th := x3) (aD := aD) (aL := aL) (aS := aS) (sr := sr) (num := num) z) (show 2 < 8 by decide) rfl rfl t2
      rw [e1]
      exact phU he ⟨⟨c1, c2⟩, u2, g2, dS, dU, dA⟩ h1 h2 m (k + 1) (x + 1) f p' _ _ _ _ _ _ (by omega) (by omega) (by omega) n4 e2
/-- the stacks -/
theorem phS (he : e ≤ 500) (hD : TD c ua ga N0 R0 us up as_ am al) {aD aL aS uP uS : Nat → Int32} : ∀ (m k x f p : Nat) (ln num pl vl : Int32) (sl sr : Nat → Int32) (nm : Nat → Int64), k + (m + 1) = c → m + 10 < f → x + m ≤ 200 → DS k N0 R0 sl sr → DN k nm → RT tb e p (32 :: (NL k ++ 32 :: (RwL (R0 k) (N0 k) ++ (many (liS N0 R0) (k + 1) m ++ (many (liU us up) 0 ua ++ many (liA as_ am al) 0 ga))))) → FIN c ua ga g x1 x2 x3 N0 R0 us up as_ am al (f_X7_reads_25 f (nI x) (nI 0) 1 (nI g) x1 x2 x3 (nI 0) (nI k) (nI e) 0 1 ln (nI p) num pl vl (wdL 0 (WL 1)) aD aL aS nm sl sr uP uS tb)
  | _, _, _, 0, _, _, _, _, _, _, _, _, _, h, _, _, _, _ => absurd h (Nat.not_lt_zero _)
  | m, k, x, f + 1, p, ln, num, pl, vl, sl, sr, nm, hk, hf, hx, h4, h5, h => by
    obtain ⟨⟨c1, c2⟩, u2, g2, dS, dU, dA⟩ := hD
    obtain ⟨s1, s2, s3⟩ := dS k (by omega)
    have n4 := DS_0 h4
    have n5 := DN_0 h5
    have g6 : ¬ (5 : Int32) ≤ nI k := nI_ge (b := 5) (by omega) (by decide)
    have RT' := RT_t (RT_t h.2).2
    have dA0 : DA 0 as_ am al aS aD aL := fun i hi => absurd hi (Nat.not_lt_zero _)
    have dU0 : DU 0 us up uS uP := fun i hi => absurd hi (Nat.not_lt_zero _)
    cases m with
    | zero =>
      rw [many, List.nil_append] at RT' h
      rw [show k + 1 = c by omega] at n4 n5
      cases ua with
      | zero =>
        rw [many, List.nil_append] at RT' h
        cases ga with
        | zero =>
          have z := LnS he (show k < 2 by omega) s1 s2 s3 rfl h (CE he) h5 sl sr 0 1 ln pl vl (wdL 0 (WL 1))
          have E := rd_end (x := x) (by omega) f (mb1 (ga := nI 0) (ua := nI 0) g6 0) (rl1 (ga := nI 0) (ua := nI 0) (cm := 1) (gr := nI g) (nr := x1) (sc := x2) (th := x3) (aD := aD) (aL := aL) (aS := aS) (uP := uP) (uS := uS) (num := num) z) rfl (nI_p0 (by omega) (by omega))
          rw [show k + 1 = c by omega] at E
          exact ⟨_, _, _, _, _, _, _, _, _, _, _, _, _, _, _, _, E, n4, dU0, dA0⟩
        | succ ga =>
          rw [many, liA_ap] at RT' h
          obtain ⟨t1, t2⟩ := CT he RT'
          have z := LnS he (show k < 2 by omega) s1 s2 s3 rfl h t1 h5 sl sr 0 1 ln pl vl (wdL 0 (WL 1))
          obtain ⟨ln', p', pl', e1, e2⟩ := rd_go he (show x ≤ 500 by omega) f (mb1 (ga := nI 0) (ua := nI 0) g6 0) (rl1 (ga := nI 0) (ua := nI 0) (cm := 1) (gr := nI g) (nr := x1) (sc := x2) (th := x3) (aD := aD) (aL := aL) (aS := aS) (uP := uP) (uS := uS) (num := num) z) (show 3 < 8 by decide) rfl rfl t2
          rw [e1, show k + 1 = c by omega]
          exact phA he ⟨⟨c1, c2⟩, u2, g2, dS, dU, dA⟩ n4 n5 dU0 ga 0 (x + 1) f p' _ _ _ _ _ _ _ (by omega) (by omega) (by omega) dA0 e2
      | succ ua =>
        rw [many, List.append_assoc, liU_ap] at RT' h
        obtain ⟨t1, t2⟩ := CT he RT'
        have z := LnS he (show k < 2 by omega) s1 s2 s3 rfl h t1 h5 sl sr 0 1 ln pl vl (wdL 0 (WL 1))
        obtain ⟨ln', p', pl', e1, e2⟩ := rd_go he (show x ≤ 500 by omega) f (mb1 (ga := nI 0) (ua := nI 0) g6 0) (rl1 (ga := nI 0) (ua := nI 0) (cm := 1) (gr := nI g) (nr := x1) (sc := x2) (th := x3) (aD := aD) (aL := aL) (aS := aS) (uP := uP) (uS := uS) (num := num) z) (show 2 < 8 by decide) rfl rfl t2
        rw [e1, show k + 1 = c by omega]
        exact phU he ⟨⟨c1, c2⟩, u2, g2, dS, dU, dA⟩ n4 n5 ua 0 (x + 1) f p' _ _ _ _ _ _ (by omega) (by omega) (by omega) dU0 e2
    | succ m =>
      rw [many, List.append_assoc, liS_ap] at RT' h
      obtain ⟨t1, t2⟩ := CT he RT'
      have z := LnS he (show k < 2 by omega) s1 s2 s3 rfl h t1 h5 sl sr 0 1 ln pl vl (wdL 0 (WL 1))
      obtain ⟨ln', p', pl', e1, e2⟩ := rd_go he (show x ≤ 500 by omega) f (mb1 (ga := nI 0) (ua := nI 0) g6 0) (rl1 (ga := nI 0) (ua := nI 0) (cm := 1) (gr := nI g) (nr := x1) (sc := x2) (th := x3) (aD := aD) (aL := aL) (aS := aS) (uP := uP) (uS := uS) (num := num) z) (show 1 < 8 by decide) rfl rfl t2
      rw [e1]
      exact phS he ⟨⟨c1, c2⟩, u2, g2, dS, dU, dA⟩ m (k + 1) (x + 1) f p' _ _ _ _ _ _ _ (by omega) (by omega) (by omega) n4 n5 e2
/-- the whole text -/
def TX (c ua ga g : Nat) (l1 l2 l3 : List Nat) (N0 R0 us up as_ am al : Nat → Nat) : List Nat := WL 0 ++ 32 :: (WL 4 ++ 32 :: (l1 ++ 32 :: (WL 5 ++ 32 :: (l2 ++ 32 :: (WL 6 ++ 32 :: (l3 ++ 32 :: (WL 7 ++ 32 :: (dgs g ++ (many (liS N0 R0) 0 c ++ (many (liU us up) 0 ua ++ many (liA as_ am al) 0 ga))))))))))
theorem rd_all (he : e ≤ 500) (hD : TD c ua ga N0 R0 us up as_ am al) {l1 l2 l3 : List Nat} (y1 : SG x1 l1) (y2 : SG x2 l2) (y3 : SG x3 l3) (hg : g ≤ 100) (h : RT tb e 0 (TX c ua ga g l1 l2 l3 N0 R0 us up as_ am al)) (v1 v2 v3 v4 v5 v6 v7 v8 v9 v10 v11 v12 v13 v14 v15 v16 : Int32) (wd : Int64) (aD aL aS sl sr uP uS : Nat → Int32) (nm : Nat → Int64) : FIN c ua ga g x1 x2 x3 N0 R0 us up as_ am al (f_X7_reads (nI e) v1 v2 v3 v4 v5 v6 v7 v8 v9 v10 v11 v12 v13 v14 v15 v16 wd aD aL aS nm sl sr uP uS tb) := by
  obtain ⟨w1, w2, w3⟩ := WL_l (show 0 < 8 by decide)
  have a := fun kd ln pl vl wd => A_w he (kd := kd) (ln := ln) (pl := pl) (vl := vl) (wd := wd) (k := 0) (p := 0) (by decide) w1 w2 w3 rfl h
  have R := (a 0 0 0 0 0).2
  rw [nI_0] at a
  rw [f_X7_reads, f_X4_clear, bd_s, (a _ _ _ _ _).1, bd_s]
  dsimp only
  obtain ⟨c', rfl⟩ : ∃ c', c = c' + 1 := ⟨c - 1, by have := hD.1.1; omega⟩
  rw [many, List.append_assoc, liS_ap] at R
  obtain ⟨n', q, hd, R2⟩ := HD he y1 y2 y3 hg R 0 v3 v4 v5 v6 0 1 (nI (WL 0).length) v14 (nI 0) 0 (wdL 0 (WL 0))
  have rl : f_X7_readsLine 0 0 v3 v4 v5 v6 0 0 (nI e) 0 1 (nI (WL 0).length) (nI (0 + 0 + (WL 0).length)) v14 (nI 0) 0 (wdL 0 (WL 0)) aD aL aS nm sl sr uP uS tb = some (1, 0, 1, nI g, x1, x2, x3, 0, 0, 0, 3, 1, nI (q + 1), n', nI q, nI 59, 0, aD, aL, aS, nm, sl, sr, uP, uS) := by
    rw [f_X7_readsLine, show f_X7_isWord 0 1 (wdL 0 (WL 0)) = some 1 from WL_w (by decide) (by decide), bd_s, if_neg (by decide), hd, bd_s]
    dsimp only
    rw [gd_t _ (Or.inr rfl)]
  obtain ⟨ln', p', pl', e1, e2⟩ := rd_go he (x := 0) (by decide) 99999 (C := (3, 1, nI (q + 1), nI q, nI 59, 0)) (mb0 0 0 0 0) rl (show 1 < 8 by decide) rfl rfl R2
  have go := phS (g := g) (x1 := x1) (x2 := x2) (x3 := x3) (aD := aD) (aL := aL) (aS := aS) (uP := uP) (uS := uS) he hD c' 0 (0 + 1) 99999 p' ln' n' pl' 0 sl sr nm (by omega) (by have := hD.1.2; omega) (by have := hD.1.2; omega) (fun i hi => absurd hi (Nat.not_lt_zero _)) (fun i hi => absurd hi (Nat.not_lt_zero _)) e2
  rw [nI_0] at go
  rw [nI_0] at e1
  exact e1 ▸ go
end RTP2
