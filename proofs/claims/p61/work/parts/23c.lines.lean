/-! LINES: whether one goes out does not depend on what the arrays held; never do all go out -/
theorem cf_ok {M : Nat} (h1 : 1 ≤ M) (hM : M ≤ 36) : ∀ (ps : List Nat) (c s c2 s2 : Nat → Int32), (∀ e, e < M → c e = c2 e) → ∃ c' s' c2' s2', cfold M ps c s = some (c', s') ∧ cfold M ps c2 s2 = some (c2', s2') ∧ ∀ e, e < M → c' e = c2' e
  | [], c, s, c2, s2, h => ⟨c, s, c2, s2, rfl, rfl, h⟩
  | p :: ps, c, s, c2, s2, h => by
    have b : M / p ≤ M := Nat.div_le_self _ _
    obtain ⟨d, d1, d2⟩ := x6_sub h1 hM b c s
    obtain ⟨g, g1, g2⟩ := x6_sub h1 hM b c2 s2
    obtain ⟨c', s', c2', s2', k1, k2, k3⟩ := cf_ok h1 hM ps d c g c2 (fun e he => by rw [d2 e he, g2 e he, h _ (Nat.mod_lt _ h1), h e he])
    exact ⟨c', s', c2', s2', by rw [cfold, d1, bd_s]; exact k1, by rw [cfold, g1, bd_s]; exact k2, k3⟩
theorem ln_go {n r l : Nat} (h1 : 1 ≤ n) (h2 : n ≤ 12) (hr : r < 2 ^ n) (hl : l < rRep n r) (c s : Nat → Int32) : ∃ c1 c' s', (∀ e, e < 36 → c1 e = nI (rCt (ixC n r l) e (rRep n r))) ∧ cfold (rPt n r) (cl (rPt n r)) c1 s = some (c', s') ∧ f_X6_goesOut (nI r) (nI n) (nI l) c s = bd (f_X6_isZero (nI (rPt n r)) c') fun z => gd (z = 0 ∨ z = 1) <| some (z, c', s') := by
  have lr := rRep_le (n := n) (r := r) h2
  have rp := rRep_pos (n := n) (r := r) h1
  have lp := rPt_le (n := n) (r := r) h2
  have pp := rPt_pos (n := n) (r := r) h1
  obtain ⟨c1, a1, a2⟩ := x6_cp h1 h2 hr hl c
  obtain ⟨c', s', _, _, d1, -, -⟩ := cf_ok pp lp (cl (rPt n r)) c1 s c1 s (fun _ _ => rfl)
  refine ⟨c1, c', s', a2, d1, ?_⟩
  have t23 : f_X6_goesOut_23 (nI r) (nI n) (nI l) (nI (rRep n r)) (nI (rPt n r)) c s = bd (f_X6_isZero (nI (rPt n r)) c') fun z => gd (z = 0 ∨ z = 1) <| some (z, c', s') := by
    rw [f_X6_goesOut_23, if_neg (show ¬ nI (rRep n r) < (1 : Int32) from nI_nlt (b := 1) rp (by omega)), if_neg (show ¬ nI (rPt n r) < (1 : Int32) from nI_nlt (b := 1) pp (by omega)), if_pos (show nI (rPt n r) ≤ (36 : Int32) from nI_le (b := 36) lp (by omega)), gd_t _ (nI_ne0 rp (by omega)), pk_div (by omega) rp (by omega), pk_mul, a1, bd_s, x6_out_0 pp lp, d1, bd_s]
  rw [f_X6_goesOut, x8_repeats h1 h2 hr, bd_s, show (3 : Int32) = nI 3 from rfl, pk_rem (by omega) (by omega) (by omega)]
  by_cases q : rRep n r % 3 = 0
  · rw [q, if_pos nI_0]
    rw [show rPt n r = rRep n r by unfold rPt; rw [if_pos q]] at t23 ⊢
    exact t23
  · have m := Nat.mod_lt (rRep n r) (show 0 < 3 by decide)
    rw [if_neg (nI_ne0 (by omega) (by omega)), pk_mul]
    rw [show rPt n r = 3 * rRep n r by unfold rPt; rw [if_neg q]] at t23 ⊢
    exact t23
theorem ln_val {n r l : Nat} (h1 : 1 ≤ n) (h2 : n ≤ 12) (hr : r < 2 ^ n) (hl : l < rRep n r) : ∃ b : Nat, b ≤ 1 ∧ (∀ c s, ∃ c' s', f_X6_goesOut (nI r) (nI n) (nI l) c s = some (nI b, c', s')) ∧ (b = 1 → ∃ c1 s c' s', (∀ e, e < 36 → c1 e = nI (rCt (ixC n r l) e (rRep n r))) ∧ cfold (rPt n r) (cl (rPt n r)) c1 s = some (c', s') ∧ ∀ e, e < rPt n r → c' e = 0) := by
  have lp := rPt_le (n := n) (r := r) h2
  have pp := rPt_pos (n := n) (r := r) h1
  obtain ⟨c1, c', s', a1, a2, a3⟩ := ln_go h1 h2 hr hl (fun _ => 0) (fun _ => 0)
  have z1 := x6_isZero_2 lp (c := c') kFU 0 (Nat.zero_le _) (by unfold kFU; omega) (fun j hj => absurd hj (Nat.not_lt_zero _))
  have same : ∀ c s, ∃ d d' e', f_X6_goesOut (nI r) (nI n) (nI l) c s = (bd (f_X6_isZero (nI (rPt n r)) d') fun z => gd (z = 0 ∨ z = 1) <| some (z, d', e')) ∧ (∀ e, e < rPt n r → d' e = c' e) ∧ d = d' := fun c s => by
    obtain ⟨d1, d', e', b1, b2, b3⟩ := ln_go h1 h2 hr hl c s
    obtain ⟨x, y, x', y', k1, k2, k3⟩ := cf_ok pp lp (cl (rPt n r)) d1 s c1 (fun _ => 0) (fun e he => by rw [b1 e (by omega), a1 e (by omega)])
    rw [b2] at k1
    rw [a2] at k2
    have g1 := Option.some.inj k1
    have g2 := Option.some.inj k2
    cases g1; cases g2
    exact ⟨d', d', e', b3, k3, rfl⟩
  rcases z1 with ⟨y1, y2⟩ | ⟨⟨j, j1, j2⟩, y2⟩
  · refine ⟨1, Nat.le_refl _, fun c s => ?_, fun _ => ⟨c1, _, c', s', a1, a2, y1⟩⟩
    obtain ⟨-, d', e', k1, k2, -⟩ := same c s
    refine ⟨d', e', ?_⟩
    rw [k1]
    rcases x6_isZero_2 lp (c := d') kFU 0 (Nat.zero_le _) (by unfold kFU; omega) (fun j hj => absurd hj (Nat.not_lt_zero _)) with ⟨w1, w2⟩ | ⟨⟨j, j1, j2⟩, w2⟩
    · rw [f_X6_isZero, show f_X6_isZero_2 kFU (nI (rPt n r)) 0 d' = _ from w2]; rfl
    · exact absurd ((k2 j j1).trans (y1 j j1)) j2
  · refine ⟨0, Nat.zero_le _, fun c s => ?_, fun h => absurd h (by decide)⟩
    obtain ⟨-, d', e', k1, k2, -⟩ := same c s
    refine ⟨d', e', ?_⟩
    rw [k1]
    rcases x6_isZero_2 lp (c := d') kFU 0 (Nat.zero_le _) (by unfold kFU; omega) (fun j hj => absurd hj (Nat.not_lt_zero _)) with ⟨w1, w2⟩ | ⟨⟨i, i1, i2⟩, w2⟩
    · exact absurd ((k2 j j1).symm.trans (w1 j j1)) j2
    · rw [f_X6_isZero, show f_X6_isZero_2 kFU (nI (rPt n r)) 0 d' = _ from w2]; rfl
/-- 1: the line goes out -/
def lO (n r l : Nat) : Nat := if lnO n r l = 0 then 0 else 1
theorem lO_le (n r l : Nat) : lO n r l ≤ 1 := by unfold lO; split <;> decide
theorem lO_ok {n r l : Nat} (h1 : 1 ≤ n) (h2 : n ≤ 12) (hr : r < 2 ^ n) (hl : l < rRep n r) : (∀ c s, ∃ c' s', f_X6_goesOut (nI r) (nI n) (nI l) c s = some (nI (lO n r l), c', s')) ∧ (lO n r l = 1 → ∃ c1 s c' s', (∀ e, e < 36 → c1 e = nI (rCt (ixC n r l) e (rRep n r))) ∧ cfold (rPt n r) (cl (rPt n r)) c1 s = some (c', s') ∧ ∀ e, e < rPt n r → c' e = 0) := by
  obtain ⟨b, b1, b2, b3⟩ := ln_val h1 h2 hr hl
  obtain ⟨c0, s0, e0⟩ := b2 (fun _ => 0) (fun _ => 0)
  have e : lO n r l = b := by
    unfold lO lnO
    rw [e0]
    rcases (by omega : b = 0 ∨ b = 1) with rfl | rfl
    · rfl
    · rfl
  rw [e]
  exact ⟨b2, b3⟩
/-! sums of whole numbers, up to a multiple of q -/
def cg (q a b : Int) : Prop := ∃ k : Int, a = b + q * k
theorem cg_r (q a : Int) : cg q a a := ⟨0, by omega⟩
theorem cg_s {q a b : Int} (h : cg q a b) : cg q b a := by
  obtain ⟨k, h⟩ := h
  exact ⟨-k, by rw [h, Int.mul_neg]; omega⟩
theorem cg_t {q a b c : Int} (h : cg q a b) (g : cg q b c) : cg q a c := by
  obtain ⟨k, h⟩ := h
  obtain ⟨m, g⟩ := g
  exact ⟨m + k, by rw [h, g, Int.mul_add]; omega⟩
theorem cg_a {q a b c d : Int} (h : cg q a b) (g : cg q c d) : cg q (a + c) (b + d) := by
  obtain ⟨k, h⟩ := h
  obtain ⟨m, g⟩ := g
  exact ⟨k + m, by rw [h, g, Int.mul_add]; omega⟩
theorem cg_m {q a b : Int} (c : Int) (h : cg q a b) : cg q (c * a) (c * b) := by
  obtain ⟨k, h⟩ := h
  exact ⟨c * k, by rw [h, Int.mul_add, Int.mul_left_comm]⟩
theorem cg_mr {q a b : Int} (c : Int) (h : cg q a b) : cg q (a * c) (b * c) := by
  rw [Int.mul_comm a, Int.mul_comm b]; exact cg_m c h
def im (f : Nat → Int) : Nat → Int
  | 0 => 0
  | k + 1 => im f k + f k
theorem im_congr {f g : Nat → Int} : ∀ K, (∀ k, k < K → f k = g k) → im f K = im g K
  | 0, _ => rfl
  | K + 1, h => by rw [im, im, im_congr K (fun k hk => h k (by omega)), h K (by omega)]
theorem im_cg {q : Int} {f g : Nat → Int} : ∀ K, (∀ k, k < K → cg q (f k) (g k)) → cg q (im f K) (im g K)
  | 0, _ => cg_r _ _
  | K + 1, h => by rw [im, im]; exact cg_a (im_cg K (fun k hk => h k (by omega))) (h K (by omega))
theorem im_add (f g : Nat → Int) : ∀ K, im (fun k => f k + g k) K = im f K + im g K
  | 0 => rfl
  | K + 1 => by rw [im, im, im, im_add f g K]; omega
theorem im_mul (c : Int) (f : Nat → Int) : ∀ K, im (fun k => c * f k) K = c * im f K
  | 0 => by rw [im, im, Int.mul_zero]
  | K + 1 => by rw [im, im, im_mul c f K, Int.mul_add]
theorem im_sub (f g : Nat → Int) : ∀ K, im (fun k => f k - g k) K = im f K - im g K
  | 0 => rfl
  | K + 1 => by rw [im, im, im, im_sub f g K]; omega
theorem im_0 : ∀ K, im (fun _ => 0) K = 0
  | 0 => rfl
  | K + 1 => by rw [im, im_0 K]; rfl
theorem im_split (f : Nat → Int) (a : Nat) : ∀ b, im f (a + b) = im f a + im (fun k => f (a + k)) b
  | 0 => by rw [im, Nat.add_zero, Int.add_zero]
  | b + 1 => by rw [← Nat.add_assoc, im, im, im_split f a b]; omega
theorem im_swap (f : Nat → Nat → Int) (B : Nat) : ∀ A, im (fun a => im (fun b => f a b) B) A = im (fun b => im (fun a => f a b) A) B
  | 0 => by rw [im]; exact (im_0 B).symm
  | A + 1 => by
    rw [im, im_swap f B A, ← im_add]
    rfl
theorem im_one (c : Nat) (g : Nat → Int) : ∀ K, im (fun k => if c = k then g k else 0) K = if c < K then g c else 0
  | 0 => by rw [im, if_neg (Nat.not_lt_zero _)]
  | K + 1 => by
    rw [im, im_one c g K]
    by_cases h : c = K
    · subst h; rw [if_neg (Nat.lt_irrefl _), if_pos rfl, if_pos (Nat.lt_succ_self _)]; omega
    · rw [if_neg h]
      by_cases g' : c < K
      · rw [if_pos g', if_pos (by omega)]; omega
      · rw [if_neg g', if_neg (by omega)]; rfl
section EVL
variable {q z : Int} {M : Nat}
abbrev evl (z : Int) (M : Nat) (c : Nat → Int) : Int := im (fun e => c e * z ^ e) M
theorem zpow_cg (h : cg q (z ^ M) 1) : ∀ k, cg q (z ^ (M * k)) 1
  | 0 => by rw [Nat.mul_zero, Int.pow_zero]; exact cg_r _ _
  | k + 1 => by
    rw [Nat.mul_succ, Int.pow_add]
    exact cg_t (cg_m _ h) (by rw [Int.mul_one]; exact zpow_cg h k)
theorem zmod_cg (h : cg q (z ^ M) 1) (x : Nat) : cg q (z ^ (x % M)) (z ^ x) := by
  have e : z ^ x = z ^ (M * (x / M)) * z ^ (x % M) := by rw [← Int.pow_add, Nat.div_add_mod]
  rw [e]
  refine cg_s (cg_t (cg_mr _ (zpow_cg h (x / M))) ?_)
  rw [Int.one_mul]; exact cg_r _ _
theorem evl_turn (h : cg q (z ^ M) 1) {B : Nat} (hB : B ≤ M) (h1 : 1 ≤ M) (c : Nat → Int) : cg q (evl z M (fun e => c ((e + M - B) % M))) (z ^ B * evl z M c) := by
  have e1 : evl z M (fun e => c ((e + M - B) % M)) = im (fun e => c (M - B + e) * z ^ e) B + im (fun e => c e * z ^ (B + e)) (M - B) := by
    unfold evl
    rw [show im (fun e => c ((e + M - B) % M) * z ^ e) M = im (fun e => c ((e + M - B) % M) * z ^ e) (B + (M - B)) by rw [Nat.add_sub_cancel' hB], im_split]
    rw [im_congr (g := fun e => c (M - B + e) * z ^ e) B (fun k hk => by
      show c ((k + M - B) % M) * z ^ k = c (M - B + k) * z ^ k
      rw [Nat.mod_eq_of_lt (by omega), show k + M - B = M - B + k by omega])]
    rw [im_congr (f := fun k => c ((B + k + M - B) % M) * z ^ (B + k)) (g := fun e => c e * z ^ (B + e)) (M - B) (fun k hk => by
      show c ((B + k + M - B) % M) * z ^ (B + k) = c k * z ^ (B + k)
      rw [show B + k + M - B = k + M by omega, Nat.add_mod_right, Nat.mod_eq_of_lt (by omega)])]
  have e2 : z ^ B * evl z M c = im (fun e => c e * z ^ (B + e)) (M - B) + im (fun e => c (M - B + e) * (z ^ M * z ^ e)) B := by
    rw [← im_mul]
    rw [show im (fun e => z ^ B * (c e * z ^ e)) M = im (fun e => z ^ B * (c e * z ^ e)) ((M - B) + B) by rw [Nat.sub_add_cancel hB], im_split]
    rw [im_congr (f := fun e => z ^ B * (c e * z ^ e)) (g := fun e => c e * z ^ (B + e)) (M - B) (fun k hk => by
      show z ^ B * (c k * z ^ k) = c k * z ^ (B + k)
      rw [Int.pow_add, Int.mul_left_comm])]
    rw [im_congr (f := fun e => z ^ B * (c (M - B + e) * z ^ (M - B + e))) (g := fun e => c (M - B + e) * (z ^ M * z ^ e)) B (fun k hk => by
      show z ^ B * (c (M - B + k) * z ^ (M - B + k)) = c (M - B + k) * (z ^ M * z ^ k)
      rw [Int.mul_left_comm, ← Int.pow_add, ← Int.pow_add, show B + (M - B + k) = M + k by omega])]
  rw [e1, e2, Int.add_comm]
  refine cg_a (cg_r _ _) (im_cg B (fun k hk => cg_m _ (cg_s (cg_t (cg_mr _ h) ?_))))
  rw [Int.one_mul]; exact cg_r _ _
def zpr (z : Int) (M : Nat) : List Nat → Int
  | [] => 1
  | p :: ps => zpr z M ps * (z ^ (M / p) - 1)
theorem evl_step (h : cg q (z ^ M) 1) {B : Nat} (hB : B ≤ M) (h1 : 1 ≤ M) {c c' : Nat → Int} (hc : ∀ j, j < M → c' j = c ((j + M - B) % M) - c j) : cg q (evl z M c') ((z ^ B - 1) * evl z M c) := by
  have e : evl z M c' = evl z M (fun e => c ((e + M - B) % M)) - evl z M c := by
    unfold evl
    rw [← im_sub]
    exact im_congr M (fun k hk => by show c' k * z ^ k = _; rw [hc k hk, Int.sub_mul])
  rw [e, Int.sub_mul, Int.one_mul]
  have t := evl_turn h hB h1 c
  obtain ⟨k, hk⟩ := t
  exact ⟨k, by rw [hk]; omega⟩
theorem evl_fold (h : cg q (z ^ M) 1) (h1 : 1 ≤ M) (hM : M ≤ 36) : ∀ (ps : List Nat) (c s c' s' : Nat → Int32) (A : Nat), A * 2 ^ ps.length < 2 ^ 31 → (∀ e, e < M → ib (c e) A) → cfold M ps c s = some (c', s') →
    cg q (evl z M (fun e => (c' e).toInt)) (zpr z M ps * evl z M (fun e => (c e).toInt))
  | [], c, s, c', s', _, _, _, e => by
    have g := Option.some.inj e
    cases g
    rw [zpr, Int.one_mul]; exact cg_r _ _
  | p :: ps, c, s, c', s', A, hA, hc, e => by
    have b : M / p ≤ M := Nat.div_le_self _ _
    obtain ⟨d, d1, d2⟩ := x6_sub h1 hM b c s
    rw [cfold, d1, bd_s] at e
    have hA' : (A + A) * 2 ^ ps.length < 2 ^ 31 := by
      rw [List.length_cons, Nat.pow_succ] at hA
      rw [show (A + A) * 2 ^ ps.length = A * (2 ^ ps.length * 2) by rw [← Nat.two_mul, Nat.mul_comm 2 A, Nat.mul_assoc, Nat.mul_comm 2]]
      exact hA
    have hs : A + A < 2 ^ 31 := Nat.lt_of_le_of_lt (Nat.le_mul_of_pos_right _ (Nat.two_pow_pos _)) hA'
    have sub : ∀ j, j < M → (d j).toInt = (c ((j + M - M / p) % M)).toInt - (c j).toInt ∧ ib (d j) (A + A) := fun j hj => by
      rw [d2 j hj]
      exact ib_sub (hc _ (Nat.mod_lt _ h1)) (hc j hj) hs
    have t1 := evl_fold h h1 hM ps d c c' s' (A + A) hA' (fun j hj => (sub j hj).2) e
    refine cg_t t1 ?_
    rw [zpr, Int.mul_assoc]
    exact cg_m _ (evl_step h b h1 (fun j hj => (sub j hj).1))
end EVL
theorem evl_count (z : Int) (M : Nat) (ix : Nat → Nat) (hx : ∀ j, ix j < M) : ∀ J, evl z M (fun e => ((rCt ix e J : Nat) : Int)) = im (fun j => z ^ ix j) J
  | 0 => by
    rw [im]
    exact (im_congr M (fun k _ => by show ((rCt ix k 0 : Nat) : Int) * z ^ k = 0; rw [rCt]; exact Int.zero_mul _)).trans (im_0 M)
  | J + 1 => by
    rw [im, ← evl_count z M ix hx J]
    have e : z ^ ix J = im (fun k => if ix J = k then z ^ k else 0) M := by rw [im_one, if_pos (hx J)]
    rw [e]
    unfold evl
    rw [← im_add]
    exact im_congr M (fun k _ => by
      show ((rCt ix k (J + 1) : Nat) : Int) * z ^ k = ((rCt ix k J : Nat) : Int) * z ^ k + (if ix J = k then z ^ k else 0)
      rw [rCt]
      by_cases g : ix J = k
      · rw [if_pos g, if_pos g, Int.natCast_add, Int.add_mul]; exact congrArg (_ + ·) (Int.one_mul _)
      · rw [if_neg g, if_neg g, Nat.add_zero, Int.add_zero])
/-- for each number of layers a prime and a root of unity -/
def zq (M : Nat) : Nat × Nat := if M = 3 then (37, 10) else if M = 6 then (37, 11) else if M = 12 then (37, 8) else if M = 15 then (61, 12) else if M = 21 then (43, 9) else if M = 24 then (73, 7) else if M = 9 then (37, 7) else if M = 30 then (61, 4) else if M = 33 then (67, 4) else if M = 18 then (37, 3) else if M = 27 then (109, 3) else (37, 2)
def zP (rep : Nat) : Nat := if rep % 3 = 0 then rep else 3 * rep
def zprN (z M : Nat) : List Nat → Nat
  | [] => 1
  | p :: ps => zprN z M ps * (z ^ (M / p) - 1)
def zsm (z a j : Nat) : Nat → Nat
  | 0 => 0
  | l + 1 => zsm z a j l + z ^ (a * l * j)
def zok (rep : Nat) : Bool := Nat.ble (rep) 36 && (Nat.blt 36 (zP rep) || (decide ((zq (zP rep)).2 ^ zP rep % (zq (zP rep)).1 = 1) && allB rep (fun j => j == 0 || decide (zsm (zq (zP rep)).2 (zP rep / rep) j rep % (zq (zP rep)).1 = 0)) && decide (¬ zprN (zq (zP rep)).2 (zP rep) (cl (zP rep)) * rep % (zq (zP rep)).1 = 0)))
theorem zok_all : allB 36 (fun k => zok (k + 1)) = true := by decide +kernel
theorem zsm_im (z a j : Nat) : ∀ K, ((zsm z a j K : Nat) : Int) = im (fun l => (z : Int) ^ (a * l * j)) K
  | 0 => rfl
  | K + 1 => by rw [zsm, im, Int.natCast_add, zsm_im z a j K, Int.natCast_pow]
theorem zpr_N {z : Nat} (hz : 1 ≤ z) (M : Nat) : ∀ ps, ((zprN z M ps : Nat) : Int) = zpr z M ps
  | [] => rfl
  | p :: ps => by
    rw [zprN, zpr, Int.natCast_mul, zpr_N hz M ps, Int.natCast_sub (Nat.pow_pos hz), Int.natCast_pow]; rfl
theorem cg_of {q a b : Nat} (h : a % q = b % q) : cg q a b := by
  refine ⟨((a / q : Nat) : Int) - ((b / q : Nat) : Int), ?_⟩
  have e1 := Nat.div_add_mod a q
  have e2 := Nat.div_add_mod b q
  have c1 : (a : Int) = (q : Int) * ((a / q : Nat) : Int) + ((a % q : Nat) : Int) := by rw [← Int.natCast_mul, ← Int.natCast_add, e1]
  have c2 : (b : Int) = (q : Int) * ((b / q : Nat) : Int) + ((b % q : Nat) : Int) := by rw [← Int.natCast_mul, ← Int.natCast_add, e2]
  rw [c1, c2, h, Int.mul_sub]; omega
theorem cg_0 {q a : Nat} (hq : 0 < q) (h : cg q a 0) : a % q = 0 := by
  obtain ⟨k, h⟩ := h
  have : (a : Int) % (q : Int) = 0 := by rw [h, Int.zero_add]; exact Int.mul_emod_right _ _
  exact_mod_cast this
theorem rPt_P (n r : Nat) : rPt n r = zP (rRep n r) := rfl
theorem ln_not {n r : Nat} (h1 : 1 ≤ n) (h2 : n ≤ 12) (hr : r < 2 ^ n) : ∃ l, l < rRep n r ∧ lO n r l = 0 := by
  have lr := rRep_le (n := n) (r := r) h2
  have rp := rRep_pos (n := n) (r := r) h1
  have lp := rPt_le (n := n) (r := r) h2
  have pp := rPt_pos (n := n) (r := r) h1
  have hk := allB_at zok_all (rRep n r - 1) (by omega)
  rw [show rRep n r - 1 + 1 = rRep n r by omega] at hk
  generalize hP : rPt n r = P at *
  generalize hrep : rRep n r = rep at *
  have eP : zP rep = P := by rw [← hP, rPt_P, hrep]
  unfold zok at hk
  rw [eP] at hk
  generalize hz : (zq P).2 = z at hk
  generalize hq : (zq P).1 = q at hk
  simp only [Bool.and_eq_true, Bool.or_eq_true, decide_eq_true_eq] at hk
  obtain ⟨-, hk⟩ := hk
  rcases hk with hk | ⟨⟨k1, k2⟩, k3⟩
  · have := Nat.le_of_ble_eq_true (show Nat.ble (36 + 1) P = true from hk)
    omega
  have q0 : 0 < q := by
    rcases Nat.eq_zero_or_pos q with e | e
    · rw [← hq] at e
      unfold zq at e
      repeat' split at e
      all_goals exact absurd e (by decide)
    · exact e
  have z0 : 1 ≤ z := by
    rcases Nat.eq_zero_or_pos z with e | e
    · rw [← hz] at e
      unfold zq at e
      repeat' split at e
      all_goals exact absurd e (by decide)
    · exact e
  apply Classical.byContradiction
  intro hno
  have all1 : ∀ l, l < rep → lO n r l = 1 := fun l hl => by
    have := lO_le n r l
    rcases (by omega : lO n r l = 0 ∨ lO n r l = 1) with e | e
    · exact absurd ⟨l, hl, e⟩ hno
    · exact e
  have hzM : cg (q : Int) ((z : Int) ^ P) 1 := by
    have t : cg (q : Int) ((z ^ P : Nat) : Int) ((1 : Nat) : Int) := cg_of (by
      rw [k1]
      rcases Nat.lt_or_ge 1 q with g | g
      · exact (Nat.mod_eq_of_lt g).symm
      · have : q = 1 := by omega
        rw [this] at k1; rw [Nat.mod_one] at k1; omega)
    rwa [Int.natCast_pow] at t
  -- each line: 0 is the product times the sum of its points
  have each : ∀ l, l < rep → cg (q : Int) 0 (zpr z P (cl P) * im (fun j => (z : Int) ^ (P / rep * l * j + P / 3 * rLt n r j)) rep) := fun l hl => by
    obtain ⟨c1, s, c', s', a1, a2, a3⟩ := (lO_ok h1 h2 hr (by rw [hrep]; exact hl)).2 (all1 l hl)
    rw [hP] at a2 a3
    have len : (cl P).length ≤ 5 := by
      unfold cl
      rw [List.length_append, List.length_append, List.length_append, List.length_append]
      have w : ∀ (b : Bool) (x : Nat), (if b = true then [x] else []).length ≤ 1 := fun b x => by cases b <;> simp
      have w2 : ∀ (C : Prop) [Decidable C] (x : Nat), (if C then [x] else []).length ≤ 1 := fun C _ x => by split <;> simp
      have := w2 (P % 2 = 0) 2
      have := w2 (P % 3 = 0) 3
      have := w2 (P % 5 = 0) 5
      have := w2 (P % 7 = 0) 7
      have := w2 (P % 11 = 0) 11
      omega
    have cb : ∀ e, rCt (ixC n r l) e (rRep n r) ≤ 36 := fun e => Nat.le_trans (rCt_le _ _ _) (by rw [hrep]; omega)
    have c1v : ∀ e, e < P → (c1 e).toInt = ((rCt (ixC n r l) e (rRep n r) : Nat) : Int) := fun e he => by
      rw [a1 e (by omega), nI_toInt (Nat.lt_of_le_of_lt (cb e) (by decide))]
    have t := evl_fold (q := q) (z := z) hzM pp lp (cl P) c1 s c' s' 36 (Nat.lt_of_le_of_lt (Nat.mul_le_mul_left _ (Nat.pow_le_pow_right (by decide) len)) (by decide)) (fun e he => by
      show (c1 e).toInt.natAbs ≤ 36
      rw [c1v e he, Int.natAbs_natCast]; exact cb e) a2
    have t0 : evl (z : Int) P (fun e => (c' e).toInt) = 0 := (im_congr P (fun k hk => by
      show (c' k).toInt * (z : Int) ^ k = 0
      rw [a3 k hk]; exact Int.zero_mul _)).trans (im_0 P)
    have t1 : evl (z : Int) P (fun e => (c1 e).toInt) = im (fun j => (z : Int) ^ ixC n r l j) rep := by
      rw [← evl_count (z : Int) P (ixC n r l) (fun j => by unfold ixC; rw [hP]; exact Nat.mod_lt _ pp) rep, ← hrep]
      exact im_congr P (fun k hk => by show (c1 k).toInt * (z : Int) ^ k = _; rw [c1v k hk])
    rw [t0, t1] at t
    refine cg_t t (cg_m _ (im_cg rep (fun j hj => ?_)))
    unfold ixC
    rw [hP, hrep]
    exact zmod_cg hzM _
  have tot : cg (q : Int) 0 (zpr z P (cl P) * (rep : Int)) := by
    have s1 : cg (q : Int) (im (fun _ => 0) rep) (im (fun l => zpr z P (cl P) * im (fun j => (z : Int) ^ (P / rep * l * j + P / 3 * rLt n r j)) rep) rep) := im_cg rep each
    rw [im_0, im_mul, im_swap (fun l j => (z : Int) ^ (P / rep * l * j + P / 3 * rLt n r j))] at s1
    refine cg_t s1 (cg_m _ ?_)
    have s2 : cg (q : Int) (im (fun j => im (fun l => (z : Int) ^ (P / rep * l * j + P / 3 * rLt n r j)) rep) rep) (im (fun j => if 0 = j then (rep : Int) else 0) rep) := im_cg rep (fun j hj => by
      have e : im (fun l => (z : Int) ^ (P / rep * l * j + P / 3 * rLt n r j)) rep = (z : Int) ^ (P / 3 * rLt n r j) * im (fun l => (z : Int) ^ (P / rep * l * j)) rep := by
        rw [← im_mul]
        exact im_congr rep (fun l _ => by
          show (z : Int) ^ (P / rep * l * j + P / 3 * rLt n r j) = (z : Int) ^ (P / 3 * rLt n r j) * (z : Int) ^ (P / rep * l * j)
          rw [Int.pow_add, Int.mul_comm])
      rw [e]
      by_cases g : 0 = j
      · subst g
        rw [if_pos rfl]
        have e2 : im (fun l => (z : Int) ^ (P / rep * l * 0)) rep = (rep : Int) := by
          have : ∀ K, im (fun l => (z : Int) ^ (P / rep * l * 0)) K = (K : Int) := by
            intro K
            induction K with
            | zero => rfl
            | succ K ih => rw [im, ih, Nat.mul_zero, Int.pow_zero]; rfl
          exact this rep
        rw [e2, show rLt n r 0 = 0 from rfl, Nat.mul_zero, Int.pow_zero, Int.one_mul]
        exact cg_r _ _
      · rw [if_neg g]
        have hj2 := allB_at k2 j hj
        simp only [Bool.or_eq_true, beq_iff_eq, decide_eq_true_eq] at hj2
        rcases hj2 with w | w
        · exact absurd w.symm g
        · have t : cg (q : Int) ((zsm z (P / rep) j rep : Nat) : Int) ((0 : Nat) : Int) := cg_of (by rw [w, Nat.zero_mod])
          rw [zsm_im] at t
          have t2 := cg_m ((z : Int) ^ (P / 3 * rLt n r j)) t
          rwa [show ((0 : Nat) : Int) = 0 from rfl, Int.mul_zero] at t2)
    rw [im_one 0 (fun _ => (rep : Int)), if_pos (show 0 < rep from rp)] at s2
    exact s2
  have fin : cg (q : Int) ((zprN z P (cl P) * rep : Nat) : Int) 0 := by
    rw [Int.natCast_mul, zpr_N z0]
    exact cg_s tot
  exact k3 (cg_0 q0 fin)
