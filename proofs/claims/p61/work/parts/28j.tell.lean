/-! WHAT THE LAW TELLS, FROM ITS CELLS; the law itself -/
section TELL
variable {c g ua ga : Nat} {a1 a2 a3 : Int32} {N0 R0 us up as_ am al : Nat → Nat} {l1 l2 l3 : List Nat} {b : Nat → Int32}
theorem b0r : (0 : Int32).toNatClampNeg = 0 := by decide
theorem b1r : (1 : Int32).toNatClampNeg = 1 := by decide
theorem b2r : (2 : Int32).toNatClampNeg = 2 := by decide
theorem b3r : (3 : Int32).toNatClampNeg = 3 := by decide
theorem s_head {cL : Nat} {cX w5 : Nat → Int32} (hD : TD c ua ga N0 R0 us up as_ am al) (hW : CW b c g ua ga a1 a2 a3 N0 R0 us up as_ am al) (y1 : SG a1 l1) (y2 : SG a2 l2) (y3 : SG a3 l3) (hg : g ≤ 100) (e1 : ∀ w σ, f_L_below a1 w σ = puts (l1.map nI) w σ) (e2 : ∀ w σ, f_L_below a2 w σ = puts (l2.map nI) w σ) (e3 : ∀ w σ, f_L_below a3 w σ = puts (l3.map nI) w σ) (m1 : ∀ b, b ∈ l1 → b < 256) (m2 : ∀ b, b ∈ l2 → b < 256) (m3 : ∀ b, b ∈ l3 → b < 256) (n1 : l1.length ≤ 4) (n2 : l2.length ≤ 4) (n3 : l3.length ≤ 4) (h0 : b 0 = a1) (h1 : b 1 = a2) (h2 : b 2 = a3) (h3 : b 3 = nI g) (f : Nat) (x6 : Int32) (w : Nat → Int32) (σ : k_SB) (hP : PT [] w σ) : TOK c g ua ga a1 a2 a3 N0 R0 b w5 (f_L_told_336 cL cX (f + 1) x6 (nI 2) w b w5 σ) := by
  have w0 : b (0 : Int32).toNatClampNeg = a1 := by rw [b0r]; exact h0
  have w1 : b (1 : Int32).toNatClampNeg = a2 := by rw [b1r]; exact h1
  have w2 : b (2 : Int32).toNatClampNeg = a3 := by rw [b2r]; exact h2
  have w3 : b (3 : Int32).toNatClampNeg = nI g := by rw [b3r]; exact h3
  obtain ⟨d1, d2, d3, d4⟩ := dgs_D (show g < 1000 by omega)
  have hn : ([] : List Nat).length ≤ 0 := Nat.le_refl _
  rw [f_L_told_336, if_pos (show (2 : Int32) ≤ nI 2 by decide)]
  refine tz (bs := [108, 97, 98, 32, 110, 101, 97, 114]) (n := 8) hP (say_c (by decide +kernel) _ _) (By_b rfl) (Nat.le_refl _) (by omega) fun w σ hP hn => ?_
  refine tz (bs := [32]) (n := 1) hP (say_c (by decide +kernel) _ _) (By_b rfl) (Nat.le_refl _) (by omega) fun w σ hP hn => ?_
  rw [gd_t _ (by decide), w0]
  refine tz (bs := l1) (n := 4) hP (e1 _ _) (m1) n1 (by omega) fun w σ hP hn => ?_
  refine tz (bs := [32, 115, 101, 99, 111, 110, 100, 32]) (n := 8) hP (say_c (by decide +kernel) _ _) (By_b rfl) (Nat.le_refl _) (by omega) fun w σ hP hn => ?_
  rw [gd_t _ (by decide), w1]
  refine tz (bs := l2) (n := 4) hP (e2 _ _) (m2) n2 (by omega) fun w σ hP hn => ?_
  refine tz (bs := [32, 116, 104, 105, 114, 100, 32]) (n := 7) hP (say_c (by decide +kernel) _ _) (By_b rfl) (Nat.le_refl _) (by omega) fun w σ hP hn => ?_
  rw [gd_t _ (by decide), w2]
  refine tz (bs := l3) (n := 4) hP (e3 _ _) (m3) n3 (by omega) fun w σ hP hn => ?_
  refine tz (bs := [32, 103, 114, 111, 119, 116, 104, 32]) (n := 8) hP (say_c (by decide +kernel) _ _) (By_b rfl) (Nat.le_refl _) (by omega) fun w σ hP hn => ?_
  rw [gd_t _ (by decide), w3]
  refine tz (bs := dgs (g)) (n := 3) hP (say_n (by omega) _ _) (b_d (by omega)) (by omega) (by omega) fun w σ hP hn => ?_
  rw [← nI_0]
  refine s_500 hD hW y1 y2 y3 hg (P := [] ++ [108, 97, 98, 32, 110, 101, 97, 114] ++ [32] ++ l1 ++ [32, 115, 101, 99, 111, 110, 100, 32] ++ l2 ++ [32, 116, 104, 105, 114, 100, 32] ++ l3 ++ [32, 103, 114, 111, 119, 116, 104, 32] ++ dgs g) ?_ kFU 0 w σ (Nat.zero_le _) (by have := hD.1.2; unfold kFU; omega) (by rw [many, List.append_nil]; exact hP) (by rw [many, List.append_nil]; omega)
  simp only [List.append_assoc, List.nil_append]
  rfl
theorem s_336 {cL : Nat} {cX w5 : Nat → Int32} (hc : 1 ≤ c) (hb : b 4 = nI c) (hc2 : c ≤ 2) {x : Nat} (hx : x < 2) (f : Nat) (x6 : Int32) (w : Nat → Int32) (σ : k_SB) : ∃ s m l, s < c ∧ m < 8 ∧ l < 16 ∧ f_L_told_336 cL cX (f + 1) x6 (nI x) w b w5 σ = f_L_told_336 cL cX f x6 (nI (x + 1)) w (upd (upd (upd b (15 + 3 * x) (nI s)) (16 + 3 * x) (nI (1 + 2 * m + x))) (17 + 3 * x) (nI l)) w5 σ := by
  have h4 : b (4 : Int32).toNatClampNeg = nI c := by rw [b4r]; exact hb
  obtain ⟨s, hs, es⟩ := pk_andE (x6 >>> (((7 : Int32) + ((8 : Int32) * nI x)) &&& 31)) (m := (1 : Int32)) 1 rfl
  obtain ⟨m, hm, em⟩ := pk_andE ((x6 >>> (((7 : Int32) + ((8 : Int32) * nI x)) &&& 31)) >>> ((1 : Int32) &&& 31)) (m := (7 : Int32)) 3 rfl
  obtain ⟨l, hl, el⟩ := pk_andE ((x6 >>> (((7 : Int32) + ((8 : Int32) * nI x)) &&& 31)) >>> ((4 : Int32) &&& 31)) (m := (15 : Int32)) 4 rfl
  refine ⟨s % c, m, l, Nat.mod_lt _ (by omega), hm, hl, ?_⟩
  have ev : ((1 : Int32) + ((2 : Int32) * nI m)) + nI x = nI (1 + 2 * m + x) := by
    rw [show (2 : Int32) * nI m = nI (2 * m) from pk_mul 2 _, show (1 : Int32) + nI (2 * m) = nI (1 + 2 * m) from nI_add 1 _, nI_add]
  rw [f_L_told_336, if_neg (show ¬ (2 : Int32) ≤ nI x from nI_ge (b := 2) hx (by decide)), lt_q, gd_t _ (by decide), h4, gd_t _ (nI_ne0 (by omega) (by omega)), es, pk_rem (by omega) (by omega) (by omega), lt_q, show (15 : Int32) + ((3 : Int32) * nI x) = nI (15 + 3 * x) from by rw [show (3 : Int32) * nI x = nI (3 * x) from pk_mul 3 _]; exact nI_add 15 _, gd_t _ (nI_in (by omega) (by decide)), lt_q, em, ev, lt_q, show (16 : Int32) + ((3 : Int32) * nI x) = nI (16 + 3 * x) from by rw [show (3 : Int32) * nI x = nI (3 * x) from pk_mul 3 _]; exact nI_add 16 _, gd_t _ (nI_in (by omega) (by decide)), lt_q, el, lt_q, show (17 : Int32) + ((3 : Int32) * nI x) = nI (17 + 3 * x) from by rw [show (3 : Int32) * nI x = nI (3 * x) from pk_mul 3 _]; exact nI_add 17 _, gd_t _ (nI_in (by omega) (by decide)), lt_q, nI_1, nI_clamp (show 15 + 3 * x < 2 ^ 31 by omega), nI_clamp (show 16 + 3 * x < 2 ^ 31 by omega), nI_clamp (show 17 + 3 * x < 2 ^ 31 by omega)]
theorem s_116 {cL : Nat} {cX w5 : Nat → Int32} {x : Nat} (hx : x < 2) (f : Nat) (x3 x6 : Int32) (w : Nat → Int32) (σ : k_SB) : ∃ n r, 2 ≤ n ∧ n ≤ 6 ∧ r < 2 ^ n ∧ f_L_told_116 cL cX (f + 1) x3 x6 (nI x) w b w5 σ = f_L_told_116 cL cX f x3 x6 (nI (x + 1)) w (upd (upd b (5 + 2 * x) (nI n)) (6 + 2 * x) (nI r)) (upd (upd w5 x (nI n)) (2 + x) (nI r)) σ := by
  obtain ⟨m, hm, em⟩ := pk_andE (x6 >>> (((3 : Int32) * nI x) &&& 31)) (m := (7 : Int32)) 3 rfl
  have en : (2 : Int32) + (nI m - nI m / (5 : Int32) * (5 : Int32)) = nI (2 + m % 5) := by
    rw [show nI m - nI m / (5 : Int32) * (5 : Int32) = nI (m % 5) from pk_rem (by omega) (by decide) (by decide)]
    exact nI_add 2 _
  have m5 : m % 5 < 5 := Nat.mod_lt _ (by decide)
  have pn : 0 < 2 ^ (2 + m % 5) := Nat.two_pow_pos _
  have p6 : (2 : Nat) ^ (2 + m % 5) ≤ 2 ^ 6 := Nat.pow_le_pow_right (by decide) (by omega)
  have pw : ((1 : Int32) <<< (nI (2 + m % 5) &&& 31)) - (1 : Int32) = nI (2 ^ (2 + m % 5) - 1) := by
    rw [rf_pow (by omega)]; exact pk_sub pn
  obtain ⟨r, hr, er⟩ := pk_andE (x6 >>> (((6 : Int32) + ((6 : Int32) * nI x)) &&& 31)) (m := nI (2 ^ (2 + m % 5) - 1)) (2 + m % 5) (pk_tn (by omega))
  refine ⟨2 + m % 5, r, by omega, by omega, hr, ?_⟩
  rw [f_L_told_116, if_neg (show ¬ (2 : Int32) ≤ nI x from nI_ge (b := 2) hx (by decide)), em, en, lt_q, show (5 : Int32) + ((2 : Int32) * nI x) = nI (5 + 2 * x) from by rw [show (2 : Int32) * nI x = nI (2 * x) from pk_mul 2 _]; exact nI_add 5 _, gd_t _ (nI_in (by omega) (by decide)), lt_q, pw, er, lt_q, show (6 : Int32) + ((2 : Int32) * nI x) = nI (6 + 2 * x) from by rw [show (2 : Int32) * nI x = nI (2 * x) from pk_mul 2 _]; exact nI_add 6 _, gd_t _ (nI_in (by omega) (by decide)), lt_q, gd_t _ (nI_in (by omega) (by decide)), lt_q, gd_t _ (nI_in (by omega) (by decide)), lt_q, pk_us, show (2 : Int32) + nI x = nI (2 + x) from nI_add 2 x, gd_t _ (nI_in (by omega) (by decide)), lt_q, nI_1, nI_clamp (show 5 + 2 * x < 2 ^ 31 by omega), nI_clamp (show 6 + 2 * x < 2 ^ 31 by omega), nI_clamp (show x < 2 ^ 31 by omega), nI_clamp (show 2 + x < 2 ^ 31 by omega)]
theorem b10r : (10 : Int32).toNatClampNeg = 10 := by decide
theorem b11r : (11 : Int32).toNatClampNeg = 11 := by decide
theorem b12r : (12 : Int32).toNatClampNeg = 12 := by decide
theorem b13r : (13 : Int32).toNatClampNeg = 13 := by decide
theorem s_116e {cL : Nat} {cX w5 : Nat → Int32} (hL : cL ≤ 260) (hc : 1 ≤ c) (hb : b 4 = nI c) (hc2 : c ≤ 2) (hn : ∀ k, k < c → 2 ≤ N0 k ∧ N0 k ≤ 12 ∧ b (5 + 2 * k) = nI (N0 k)) (f : Nat) (x6 : Int32) (w : Nat → Int32) (σ : k_SB) : ∃ t s0 k0 s1 k1, s0 < c ∧ s1 < c ∧ k0 < N0 s0 ∧ k1 < N0 s1 ∧ ¬ (s0 = s1 ∧ k0 = k1) ∧ f_L_told_116 cL cX (f + 1) 0 x6 (nI 2) w b w5 σ = f_L_told_336 cL cX kFU t (nI 0) w (upd (upd (upd (upd b 10 (nI s0)) 11 (nI k0)) 12 (nI s1)) 13 (nI k1)) w5 σ := by
  obtain ⟨t, et⟩ := l_cell (cX := cX) hL (k := 2) (by decide)
  obtain ⟨s, hs, es⟩ := pk_andE t (m := (1 : Int32)) 1 rfl
  obtain ⟨p, hp, ep⟩ := pk_andE (t >>> ((1 : Int32) &&& 31)) (m := (7 : Int32)) 3 rfl
  obtain ⟨q, hq, eq⟩ := pk_andE (t >>> ((4 : Int32) &&& 31)) (m := (7 : Int32)) 3 rfl
  have s0 : s % c < c := Nat.mod_lt _ (by omega)
  have s1 : (s % c + 1) % c < c := Nat.mod_lt _ (by omega)
  obtain ⟨u1, u2, u3⟩ := hn (s % c) s0
  obtain ⟨v1, v2, v3⟩ := hn ((s % c + 1) % c) s1
  have kc : p % N0 (s % c) < N0 (s % c) := Nat.mod_lt _ (by omega)
  have h4 : b (4 : Int32).toNatClampNeg = nI c := by rw [b4r]; exact hb
  have z10 : ∀ v, upd b (10 : Int32).toNatClampNeg v (10 : Int32).toNatClampNeg = v := fun v => pk_us
  have i5 : ∀ y, y < 2 → (5 : Int32) + ((2 : Int32) * nI y) = nI (5 + 2 * y) := fun y hy => by
    rw [show (2 : Int32) * nI y = nI (2 * y) from pk_mul 2 _]; exact nI_add 5 _
  have a1 : ∀ v, upd b (10 : Int32).toNatClampNeg v (nI (5 + 2 * (s % c))).toNatClampNeg = nI (N0 (s % c)) := fun v => by
    rw [nI_clamp (by omega), b10r, pk_un (by omega)]; exact u3
  have a2 : ∀ v u, upd (upd b (10 : Int32).toNatClampNeg v) (11 : Int32).toNatClampNeg u (10 : Int32).toNatClampNeg = v := fun v u => by
    rw [pk_un (by decide), pk_us]
  have a3 : ∀ v u, upd (upd b (10 : Int32).toNatClampNeg v) (11 : Int32).toNatClampNeg u (4 : Int32).toNatClampNeg = nI c := fun v u => by
    rw [pk_un (by decide), pk_un (by decide)]; exact h4
  have a4 : ∀ v u x, upd (upd (upd b (10 : Int32).toNatClampNeg v) (11 : Int32).toNatClampNeg u) (12 : Int32).toNatClampNeg x (12 : Int32).toNatClampNeg = x := fun v u x => pk_us
  have a5 : ∀ v u x, upd (upd (upd b (10 : Int32).toNatClampNeg v) (11 : Int32).toNatClampNeg u) (12 : Int32).toNatClampNeg x (10 : Int32).toNatClampNeg = v := fun v u x => by
    rw [pk_un (by decide), pk_un (by decide), pk_us]
  have a6 : ∀ v u x, upd (upd (upd b (10 : Int32).toNatClampNeg v) (11 : Int32).toNatClampNeg u) (12 : Int32).toNatClampNeg x (11 : Int32).toNatClampNeg = u := fun v u x => by
    rw [pk_un (by decide), pk_us]
  have a7 : ∀ v u x y, y < c → upd (upd (upd b (10 : Int32).toNatClampNeg v) (11 : Int32).toNatClampNeg u) (12 : Int32).toNatClampNeg x (nI (5 + 2 * y)).toNatClampNeg = nI (N0 y) := fun v u x y hy => by
    rw [nI_clamp (by omega), b10r, b11r, b12r, pk_un (by omega), pk_un (by omega), pk_un (by omega)]; exact (hn y hy).2.2
  rw [f_L_told_116, if_pos (show (2 : Int32) ≤ nI 2 by decide), show (0 : Int32) + (2 : Int32) = nI 2 by decide, et, bd_s, gd_t _ (by decide), h4, gd_t _ (nI_ne0 (by omega) (by omega)), es, pk_rem (by omega) (by omega) (by omega), lt_q, gd_t _ (by decide), lt_q, gd_t _ (by decide), z10, i5 _ (by omega), gd_t _ (nI_in (by omega) (by decide)), a1, gd_t _ (nI_ne0 (by omega) (by omega)), ep, pk_rem (by omega) (by omega) (by omega), lt_q, gd_t _ (by decide), lt_q, gd_t _ (by decide), gd_t _ (by decide), a3, gd_t _ (nI_ne0 (by omega) (by omega)), a2, nI_1, pk_rem (by omega) (by omega) (by omega), lt_q, gd_t _ (by decide), lt_q, gd_t _ (by decide), gd_t _ (by decide), a4, a5]
  by_cases z : (s % c + 1) % c = s % c
  · refine ⟨t, s % c, p % N0 (s % c), (s % c + 1) % c, (p % N0 (s % c) + 1) % N0 (s % c), s0, s1, kc, by rw [z]; exact Nat.mod_lt _ (by omega), fun y => ?_, ?_⟩
    · have y := y.2
      by_cases o : p % N0 (s % c) + 1 = N0 (s % c)
      · rw [o, Nat.mod_self] at y; omega
      · rw [Nat.mod_eq_of_lt (show p % N0 (s % c) + 1 < N0 (s % c) by omega)] at y; omega
    · rw [if_pos (congrArg nI z), gd_t _ (by decide), gd_t _ (by decide), i5 _ (by omega), gd_t _ (nI_in (by omega) (by decide)), a7 _ _ _ _ s0, gd_t _ (nI_ne0 (by omega) (by omega)), a6, nI_1, pk_rem (by omega) (by omega) (by omega), f_L_told_332, gd_t _ (by decide), lt_q, b10r, b11r, b12r, b13r, nI_0]
  · refine ⟨t, s % c, p % N0 (s % c), (s % c + 1) % c, q % N0 ((s % c + 1) % c), s0, s1, kc, Nat.mod_lt _ (by omega), fun y => z y.1.symm, ?_⟩
    rw [if_neg (fun y => z ((nI_eq (by omega) (by omega)).mp y)), gd_t _ (by decide), i5 _ (by omega), gd_t _ (nI_in (by omega) (by decide)), a7 _ _ _ _ s1, gd_t _ (nI_ne0 (by omega) (by omega)), eq, pk_rem (by omega) (by omega) (by omega), f_L_told_332, gd_t _ (by decide), lt_q, b10r, b11r, b12r, b13r, nI_0]
end TELL
