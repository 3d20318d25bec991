/-! THE LAW IS TRUE of every script -/
def TFIN (X : Option (Int32 × (Nat → Int32) × (Nat → Int32) × (Nat → Int32) × k_SB)) : Prop := ∃ c g ua ga a1 a2 a3 N0 R0 w4 w5, JC c g a1 a2 a3 ∧ BB w4 c ua a1 a2 a3 N0 R0 ∧ VV w5 c N0 R0 ∧ TOK c g ua ga a1 a2 a3 N0 R0 w4 w5 X
/-- one of two -/
abbrev o2 (x y k : Nat) : Nat := if k = 0 then x else y
theorem s_t2 {cL : Nat} {cX b w5 : Nat → Int32} {c g ua ga q1 q2 q3 n0 n1 r0 r1 s0 s1 k0 k1 : Nat} (hc : 1 ≤ c) (hc2 : c ≤ 2) (hg : g ≤ 100) (hu : ua ≤ 2) (hga : ga ≤ 2) (l1 : q1 < 32) (l2 : q2 < 32) (l3 : q3 < 32) (hn0 : 2 ≤ n0 ∧ n0 ≤ 6 ∧ r0 < 2 ^ n0) (hn1 : 2 ≤ n1 ∧ n1 ≤ 6 ∧ r1 < 2 ^ n1) (hs0 : s0 < c) (hs1 : s1 < c) (hk0 : k0 < o2 n0 n1 s0) (hk1 : k1 < o2 n0 n1 s1) (hne : ¬ (s0 = s1 ∧ k0 = k1))
    (h0 : b 0 = nI q1 - (16 : Int32)) (h1 : b 1 = nI q2 - (16 : Int32)) (h2 : b 2 = nI q3 - (16 : Int32)) (h3 : b 3 = nI g) (h4 : b 4 = nI c) (h5 : b 5 = nI n0) (h6 : b 6 = nI r0) (h7 : b 7 = nI n1) (h8 : b 8 = nI r1) (h9 : b 9 = nI ua) (h10 : b 10 = nI s0) (h11 : b 11 = nI k0) (h12 : b 12 = nI s1) (h13 : b 13 = nI k1) (h14 : b 14 = nI ga) (v0 : w5 0 = nI n0) (v1 : w5 1 = nI n1) (v2 : w5 2 = nI r0) (v3 : w5 3 = nI r1) (x6 : Int32) (w : Nat → Int32) (σ : k_SB) (hP : PT [] w σ) : TFIN (f_L_told_336 cL cX kFU x6 (nI 0) w b w5 σ) := by
  obtain ⟨u0, m0, z0, p1, p2, p3, e1⟩ := s_336 (cL := cL) (cX := cX) (w5 := w5) hc h4 hc2 (x := 0) (by decide) 99999 x6 w σ
  obtain ⟨u1, m1, z1, p4, p5, p6, e2⟩ := s_336 (cL := cL) (cX := cX) (w5 := w5) (b := upd (upd (upd b (15 + 3 * 0) (nI u0)) (16 + 3 * 0) (nI (1 + 2 * m0 + 0))) (17 + 3 * 0) (nI z0)) hc (by rw [pk_un (by decide), pk_un (by decide), pk_un (by decide)]; exact h4) hc2 (x := 1) (by decide) 99998 x6 w σ
  rw [show kFU = 99999 + 1 from rfl, e1, show 99999 = 99998 + 1 from rfl, show 0 + 1 = 1 from rfl, e2]
  have low : ∀ j, j < 15 → upd (upd (upd (upd (upd (upd b (15 + 3 * 0) (nI u0)) (16 + 3 * 0) (nI (1 + 2 * m0 + 0))) (17 + 3 * 0) (nI z0)) (15 + 3 * 1) (nI u1)) (16 + 3 * 1) (nI (1 + 2 * m1 + 1))) (17 + 3 * 1) (nI z1) j = b j := fun j hj => by
    rw [pk_un (by omega), pk_un (by omega), pk_un (by omega), pk_un (by omega), pk_un (by omega), pk_un (by omega)]
  have hi0 : upd (upd (upd (upd (upd (upd b (15 + 3 * 0) (nI u0)) (16 + 3 * 0) (nI (1 + 2 * m0 + 0))) (17 + 3 * 0) (nI z0)) (15 + 3 * 1) (nI u1)) (16 + 3 * 1) (nI (1 + 2 * m1 + 1))) (17 + 3 * 1) (nI z1) (15 + 3 * 0) = nI u0 ∧ upd (upd (upd (upd (upd (upd b (15 + 3 * 0) (nI u0)) (16 + 3 * 0) (nI (1 + 2 * m0 + 0))) (17 + 3 * 0) (nI z0)) (15 + 3 * 1) (nI u1)) (16 + 3 * 1) (nI (1 + 2 * m1 + 1))) (17 + 3 * 1) (nI z1) (16 + 3 * 0) = nI (1 + 2 * m0 + 0) ∧ upd (upd (upd (upd (upd (upd b (15 + 3 * 0) (nI u0)) (16 + 3 * 0) (nI (1 + 2 * m0 + 0))) (17 + 3 * 0) (nI z0)) (15 + 3 * 1) (nI u1)) (16 + 3 * 1) (nI (1 + 2 * m1 + 1))) (17 + 3 * 1) (nI z1) (17 + 3 * 0) = nI z0 := by
    refine ⟨?_, ?_, ?_⟩
    · rw [pk_un (by decide), pk_un (by decide), pk_un (by decide), pk_un (by decide), pk_un (by decide), pk_us]
    · rw [pk_un (by decide), pk_un (by decide), pk_un (by decide), pk_un (by decide), pk_us]
    · rw [pk_un (by decide), pk_un (by decide), pk_un (by decide), pk_us]
  have hi1 : upd (upd (upd (upd (upd (upd b (15 + 3 * 0) (nI u0)) (16 + 3 * 0) (nI (1 + 2 * m0 + 0))) (17 + 3 * 0) (nI z0)) (15 + 3 * 1) (nI u1)) (16 + 3 * 1) (nI (1 + 2 * m1 + 1))) (17 + 3 * 1) (nI z1) (15 + 3 * 1) = nI u1 ∧ upd (upd (upd (upd (upd (upd b (15 + 3 * 0) (nI u0)) (16 + 3 * 0) (nI (1 + 2 * m0 + 0))) (17 + 3 * 0) (nI z0)) (15 + 3 * 1) (nI u1)) (16 + 3 * 1) (nI (1 + 2 * m1 + 1))) (17 + 3 * 1) (nI z1) (16 + 3 * 1) = nI (1 + 2 * m1 + 1) ∧ upd (upd (upd (upd (upd (upd b (15 + 3 * 0) (nI u0)) (16 + 3 * 0) (nI (1 + 2 * m0 + 0))) (17 + 3 * 0) (nI z0)) (15 + 3 * 1) (nI u1)) (16 + 3 * 1) (nI (1 + 2 * m1 + 1))) (17 + 3 * 1) (nI z1) (17 + 3 * 1) = nI z1 := by
    refine ⟨?_, ?_, ?_⟩
    · rw [pk_un (by decide), pk_un (by decide), pk_us]
    · rw [pk_un (by decide), pk_us]
    · rw [pk_us]
  generalize upd (upd (upd (upd (upd (upd b (15 + 3 * 0) (nI u0)) (16 + 3 * 0) (nI (1 + 2 * m0 + 0))) (17 + 3 * 0) (nI z0)) (15 + 3 * 1) (nI u1)) (16 + 3 * 1) (nI (1 + 2 * m1 + 1))) (17 + 3 * 1) (nI z1) = B at low hi0 hi1 ⊢
  obtain ⟨t1, y1, e3, b1, g1, i1⟩ := sg_at l1
  obtain ⟨t2, y2, e4, b2, g2, i2⟩ := sg_at l2
  obtain ⟨t3, y3, e5, b3, g3, i3⟩ := sg_at l3
  have hD : TD c ua ga (o2 n0 n1) (o2 r0 r1) (o2 s0 s1) (o2 k0 k1) (o2 u0 u1) (o2 (1 + 2 * m0 + 0) (1 + 2 * m1 + 1)) (o2 z0 z1) := by
    refine ⟨⟨hc, hc2⟩, hu, hga, fun k hk => ?_, fun k hk => ?_, fun k hk => ?_⟩
    · rcases (by omega : k = 0 ∨ k = 1) with rfl | rfl
      · exact ⟨hn0.1, by show n0 ≤ 12; omega, hn0.2.2⟩
      · exact ⟨hn1.1, by show n1 ≤ 12; omega, hn1.2.2⟩
    · rcases (by omega : k = 0 ∨ k = 1) with rfl | rfl
      · exact ⟨hs0, hk0, fun i hi => absurd hi (Nat.not_lt_zero _)⟩
      · refine ⟨hs1, hk1, fun i hi => ?_⟩
        obtain rfl : i = 0 := by omega
        exact hne
    · rcases (by omega : k = 0 ∨ k = 1) with rfl | rfl
      · refine ⟨p1, ?_, ?_, ?_, fun i hi => absurd hi (Nat.not_lt_zero _)⟩
        · show 1 ≤ 1 + 2 * m0 + 0; omega
        · show 1 + 2 * m0 + 0 ≤ 36; omega
        · show z0 ≤ 36; omega
      · refine ⟨p4, ?_, ?_, ?_, fun i hi => ?_⟩
        · show 1 ≤ 1 + 2 * m1 + 1; omega
        · show 1 + 2 * m1 + 1 ≤ 36; omega
        · show z1 ≤ 36; omega
        · obtain rfl : i = 0 := by omega
          intro y
          have y : 1 + 2 * m0 + 0 = 1 + 2 * m1 + 1 := y.2
          omega
  have hW : CW B c g ua ga (nI q1 - 16) (nI q2 - 16) (nI q3 - 16) (o2 n0 n1) (o2 r0 r1) (o2 s0 s1) (o2 k0 k1) (o2 u0 u1) (o2 (1 + 2 * m0 + 0) (1 + 2 * m1 + 1)) (o2 z0 z1) := by
    refine ⟨(low 4 (by decide)).trans h4, (low 9 (by decide)).trans h9, (low 14 (by decide)).trans h14, fun k hk => ?_, fun k hk => ?_, fun k hk => ?_⟩
    · rcases (by omega : k = 0 ∨ k = 1) with rfl | rfl
      · exact ⟨(low 5 (by decide)).trans h5, (low 6 (by decide)).trans h6⟩
      · exact ⟨(low 7 (by decide)).trans h7, (low 8 (by decide)).trans h8⟩
    · rcases (by omega : k = 0 ∨ k = 1) with rfl | rfl
      · exact ⟨(low 10 (by decide)).trans h10, (low 11 (by decide)).trans h11⟩
      · exact ⟨(low 12 (by decide)).trans h12, (low 13 (by decide)).trans h13⟩
    · rcases (by omega : k = 0 ∨ k = 1) with rfl | rfl
      · exact hi0
      · exact hi1
  refine ⟨c, g, ua, ga, _, _, _, o2 n0 n1, o2 r0 r1, B, w5, ⟨hc, hc2, hg, i1, i2, i3⟩, ⟨hW.1, hW.2.1, (low 0 (by decide)).trans h0, (low 1 (by decide)).trans h1, (low 2 (by decide)).trans h2, hW.2.2.2.1⟩, fun s hs => ?_, s_head hD hW y1 y2 y3 hg e3 e4 e5 b1 b2 b3 g1 g2 g3 ((low 0 (by decide)).trans h0) ((low 1 (by decide)).trans h1) ((low 2 (by decide)).trans h2) ((low 3 (by decide)).trans h3) 99997 x6 w σ hP⟩
  rcases (by omega : s = 0 ∨ s = 1) with rfl | rfl
  · exact ⟨v0, v2⟩
  · exact ⟨v1, v3⟩
theorem s_t1 {cL : Nat} {cX b w5 : Nat → Int32} {c g ua ga q1 q2 q3 : Nat} (hL : cL ≤ 260) (hc : 1 ≤ c) (hc2 : c ≤ 2) (hg : g ≤ 100) (hu : ua ≤ 2) (hga : ga ≤ 2) (l1 : q1 < 32) (l2 : q2 < 32) (l3 : q3 < 32) (h0 : b 0 = nI q1 - (16 : Int32)) (h1 : b 1 = nI q2 - (16 : Int32)) (h2 : b 2 = nI q3 - (16 : Int32)) (h3 : b 3 = nI g) (h4 : b 4 = nI c) (h9 : b 9 = nI ua) (h14 : b 14 = nI ga) (x6 : Int32) (w : Nat → Int32) (σ : k_SB) (hP : PT [] w σ) : TFIN (f_L_told_116 cL cX kFU 0 x6 (nI 0) w b w5 σ) := by
  obtain ⟨n0, r0, a1, a2, a3, e1⟩ := s_116 (cL := cL) (cX := cX) (b := b) (w5 := w5) (x := 0) (by decide) 99999 0 x6 w σ
  obtain ⟨n1, r1, a4, a5, a6, e2⟩ := s_116 (cL := cL) (cX := cX) (b := upd (upd b (5 + 2 * 0) (nI n0)) (6 + 2 * 0) (nI r0)) (w5 := upd (upd w5 0 (nI n0)) (2 + 0) (nI r0)) (x := 1) (by decide) 99998 0 x6 w σ
  obtain ⟨t, s0, k0, s1, k1, c1, c2, c3, c4, c5, e3⟩ := s_116e (cL := cL) (cX := cX) (N0 := o2 n0 n1) (b := upd (upd (upd (upd b (5 + 2 * 0) (nI n0)) (6 + 2 * 0) (nI r0)) (5 + 2 * 1) (nI n1)) (6 + 2 * 1) (nI r1)) (w5 := upd (upd (upd (upd w5 0 (nI n0)) (2 + 0) (nI r0)) 1 (nI n1)) (2 + 1) (nI r1)) hL hc (by rw [pk_un (by decide), pk_un (by decide), pk_un (by decide), pk_un (by decide)]; exact h4) hc2 (fun k hk => by
    rcases (by omega : k = 0 ∨ k = 1) with rfl | rfl
    · exact ⟨a1, by show n0 ≤ 12; omega, by rw [pk_un (by decide), pk_un (by decide), pk_un (by decide), pk_us]; rfl⟩
    · exact ⟨a4, by show n1 ≤ 12; omega, by rw [pk_un (by decide), pk_us]; rfl⟩) 99997 x6 w σ
  rw [show kFU = 99999 + 1 from rfl, e1, show 99999 = 99998 + 1 from rfl, show 0 + 1 = 1 from rfl, e2, show 99998 = 99997 + 1 from rfl, show 1 + 1 = 2 from rfl, e3]
  have lo : ∀ j, j ≠ 5 → j ≠ 6 → j ≠ 7 → j ≠ 8 → j ≠ 10 → j ≠ 11 → j ≠ 12 → j ≠ 13 → upd (upd (upd (upd (upd (upd (upd (upd b (5 + 2 * 0) (nI n0)) (6 + 2 * 0) (nI r0)) (5 + 2 * 1) (nI n1)) (6 + 2 * 1) (nI r1)) 10 (nI s0)) 11 (nI k0)) 12 (nI s1)) 13 (nI k1) j = b j := fun j d5 d6 d7 d8 d10 d11 d12 d13 => by
    rw [pk_un (by omega), pk_un (by omega), pk_un (by omega), pk_un (by omega), pk_un (by omega), pk_un (by omega), pk_un (by omega), pk_un (by omega)]
  exact s_t2 hc hc2 hg hu hga l1 l2 l3 ⟨a1, a2, a3⟩ ⟨a4, a5, a6⟩ c1 c2 c3 c4 c5
    ((lo 0 (by decide) (by decide) (by decide) (by decide) (by decide) (by decide) (by decide) (by decide)).trans h0)
    ((lo 1 (by decide) (by decide) (by decide) (by decide) (by decide) (by decide) (by decide) (by decide)).trans h1)
    ((lo 2 (by decide) (by decide) (by decide) (by decide) (by decide) (by decide) (by decide) (by decide)).trans h2)
    ((lo 3 (by decide) (by decide) (by decide) (by decide) (by decide) (by decide) (by decide) (by decide)).trans h3)
    ((lo 4 (by decide) (by decide) (by decide) (by decide) (by decide) (by decide) (by decide) (by decide)).trans h4)
    (by rw [pk_un (by decide), pk_un (by decide), pk_un (by decide), pk_un (by decide), pk_un (by decide), pk_un (by decide), pk_un (by decide)]; exact pk_us)
    (by rw [pk_un (by decide), pk_un (by decide), pk_un (by decide), pk_un (by decide), pk_un (by decide), pk_un (by decide)]; exact pk_us)
    (by rw [pk_un (by decide), pk_un (by decide), pk_un (by decide), pk_un (by decide), pk_un (by decide)]; exact pk_us)
    (by rw [pk_un (by decide), pk_un (by decide), pk_un (by decide), pk_un (by decide)]; exact pk_us)
    ((lo 9 (by decide) (by decide) (by decide) (by decide) (by decide) (by decide) (by decide) (by decide)).trans h9)
    (by rw [pk_un (by decide), pk_un (by decide), pk_un (by decide)]; exact pk_us)
    (by rw [pk_un (by decide), pk_un (by decide)]; exact pk_us)
    (by rw [pk_un (by decide)]; exact pk_us)
    pk_us
    ((lo 14 (by decide) (by decide) (by decide) (by decide) (by decide) (by decide) (by decide) (by decide)).trans h14)
    (by rw [pk_un (by decide), pk_un (by decide), pk_un (by decide)]; exact pk_us)
    (by rw [pk_un (by decide)]; exact pk_us)
    (by rw [pk_un (by decide), pk_un (by decide)]; exact pk_us)
    pk_us t w σ hP
theorem s_told {cL : Nat} {cX b w5 : Nat → Int32} (hL : cL ≤ 260) (w : Nat → Int32) (σ : k_SB) (hP : PT [] w σ) : TFIN (f_L_told cL cX 0 w b w5 σ) := by
  obtain ⟨t, et⟩ := l_cell (cX := cX) hL (k := 0) (by decide)
  obtain ⟨t', et'⟩ := l_cell (cX := cX) hL (k := 1) (by decide)
  rw [nI_0] at et
  obtain ⟨q1, m1, z1⟩ := pk_andE t (m := (31 : Int32)) 5 rfl
  obtain ⟨q2, m2, z2⟩ := pk_andE (t >>> ((5 : Int32) &&& 31)) (m := (31 : Int32)) 5 rfl
  obtain ⟨q3, m3, z3⟩ := pk_andE (t >>> ((10 : Int32) &&& 31)) (m := (31 : Int32)) 5 rfl
  obtain ⟨g, m4, z4⟩ := pk_andE (t >>> ((15 : Int32) &&& 31)) (m := (127 : Int32)) 7 rfl
  obtain ⟨c, m5, z5⟩ := pk_andE (t >>> ((22 : Int32) &&& 31)) (m := (1 : Int32)) 1 rfl
  obtain ⟨u, m6, z6⟩ := pk_andE (t >>> ((23 : Int32) &&& 31)) (m := (3 : Int32)) 2 rfl
  obtain ⟨a, m7, z7⟩ := pk_andE (t >>> ((25 : Int32) &&& 31)) (m := (3 : Int32)) 2 rfl
  have g1 : g % 101 < 101 := Nat.mod_lt _ (by decide)
  have u1 : u % 3 < 3 := Nat.mod_lt _ (by decide)
  have a1 : a % 3 < 3 := Nat.mod_lt _ (by decide)
  rw [f_L_told, et, bd_s, z1, lt_q, gd_t _ (by decide), lt_q, z2, lt_q, gd_t _ (by decide), lt_q, z3, lt_q, gd_t _ (by decide), lt_q, z4, show nI g - nI g / (101 : Int32) * (101 : Int32) = nI (g % 101) from pk_rem (by omega) (by decide) (by decide), lt_q, gd_t _ (by decide), lt_q, z5, show (1 : Int32) + nI c = nI (1 + c) from nI_add 1 c, lt_q, gd_t _ (by decide), lt_q, z6, show nI u - nI u / (3 : Int32) * (3 : Int32) = nI (u % 3) from pk_rem (by omega) (by decide) (by decide), lt_q, gd_t _ (by decide), lt_q, z7, show nI a - nI a / (3 : Int32) * (3 : Int32) = nI (a % 3) from pk_rem (by omega) (by decide) (by decide), lt_q, gd_t _ (by decide), lt_q, show (0 : Int32) + (1 : Int32) = nI 1 by decide, et', bd_s, b0r, b1r, b2r, b3r, b4r, b9r, b14r]
  have fin := s_t1 (cL := cL) (cX := cX) (b := upd (upd (upd (upd (upd (upd (upd b 0 (nI q1 - 16)) 1 (nI q2 - 16)) 2 (nI q3 - 16)) 3 (nI (g % 101))) 4 (nI (1 + c))) 9 (nI (u % 3))) 14 (nI (a % 3))) (w5 := w5) (c := 1 + c) (g := g % 101) (ua := u % 3) (ga := a % 3) hL (by omega) (by omega) (by omega) (by omega) (by omega) m1 m2 m3
    (by rw [pk_un (by decide), pk_un (by decide), pk_un (by decide), pk_un (by decide), pk_un (by decide), pk_un (by decide)]; exact pk_us)
    (by rw [pk_un (by decide), pk_un (by decide), pk_un (by decide), pk_un (by decide), pk_un (by decide)]; exact pk_us)
    (by rw [pk_un (by decide), pk_un (by decide), pk_un (by decide), pk_un (by decide)]; exact pk_us)
    (by rw [pk_un (by decide), pk_un (by decide), pk_un (by decide)]; exact pk_us)
    (by rw [pk_un (by decide), pk_un (by decide)]; exact pk_us)
    (by rw [pk_un (by decide)]; exact pk_us)
    pk_us t' w σ hP
  rw [nI_0] at fin
  exact fin
theorem law_true {L : Nat} {xs : Nat → Int32} (hL : L ≤ 260) : f_L_law_23 L xs (fun _ => 0) (fun _ => 0) (fun _ => 0) s_0 = some 1 := by
  have hP : PT [] (fun _ => (0 : Int32)) s_0 := ⟨nI_0.symm, nI_0.symm, nI_0.symm, fun i hi => absurd hi (Nat.not_lt_zero _), fun t ht => absurd ht (Nat.not_lt_zero _)⟩
  obtain ⟨c, g, ua, ga, a1, a2, a3, N0, R0, w4, w5, hC, hB, hV, w', σ', e, hK⟩ := s_told (cL := L) (cX := xs) (b := fun _ => 0) (w5 := fun _ => 0) hL _ _ hP
  obtain ⟨o, z1, z2, z3⟩ := z_image hK
  rw [f_L_law_23, e, bd_s]
  dsimp only
  rw [if_neg (show ¬ (1 : Int32) = 0 by decide), z1, bd_s, lt_q, z2, if_pos rfl]
  exact d_48 hC hB hL rfl hV kFU 2 _ (by decide) (by decide) z3
