/-! WHAT THE LAW SAYS OF ITS CELLS -/
theorem tz {α : Type} {Q : Option α → Prop} {F : Option ((Nat → Int32) × k_SB)} {k : (Nat → Int32) × k_SB → Option α} {l bs : List Nat} {w : Nat → Int32} {σ : k_SB} {n : Nat} (h : PT l w σ) (e : F = puts (bs.map nI) w σ) (hb : ∀ b, b ∈ bs → b < 256) (hn : bs.length ≤ n) (hB : l.length + n ≤ 480) (kk : ∀ w' σ', PT (l ++ bs) w' σ' → (l ++ bs).length ≤ l.length + n → Q (k (w', σ'))) : Q (bd F k) := by
  obtain ⟨w', σ', e2, p⟩ := puts_PT bs l w σ h hb (by omega)
  rw [e, e2, bd_s]
  exact kk w' σ' p (by rw [List.length_append]; omega)
theorem b_1 {x : Nat} (h : x < 256) : ∀ b, b ∈ [x] → b < 256 := fun b hb => by rw [List.mem_singleton.mp hb]; exact h
theorem b_d {v : Nat} (h : v < 1000) : ∀ b, b ∈ dgs v → b < 256 := fun b hb => by
  have := isD_le ((dgs_D h).1 b hb)
  omega
theorem b_L {ls : List Nat} (h : ∀ b, b ∈ ls → isL b = true) : ∀ b, b ∈ ls → b < 256 := fun b hb => by
  have := isL_le (h b hb)
  omega
def By (bs : List Nat) : Bool := bs.all (fun b => Nat.blt b 256)
theorem By_b {bs : List Nat} (h : By bs = true) : ∀ b, b ∈ bs → b < 256 := fun b hb => by
  have := List.all_eq_true.mp h b hb
  exact Nat.le_of_ble_eq_true this
theorem sg_at {a : Nat} (ha : a < 32) : ∃ ls, SG (nI a - (16 : Int32)) ls ∧ (∀ w σ, f_L_below (nI a - (16 : Int32)) w σ = puts (ls.map nI) w σ) ∧ (∀ b, b ∈ ls → b < 256) ∧ ls.length ≤ 4 ∧ ib (nI a - (16 : Int32)) 99 := by
  by_cases q : 16 ≤ a
  · have e : nI a - (16 : Int32) = nI (a - 16) := pk_sub q
    obtain ⟨d1, d2, d3, d4⟩ := dgs_D (show a - 16 < 1000 by omega)
    refine ⟨dgs (a - 16), ⟨a - 16, by omega, Or.inl ⟨e, rfl⟩⟩, fun w σ => by rw [e]; exact say_b (by omega) w σ, b_d (by omega), by omega, ?_⟩
    rw [e]
    show (nI (a - 16)).toInt.natAbs ≤ 99
    rw [nI_toInt (by omega), Int.natAbs_natCast]; omega
  · have e0 : nI 16 - nI a = nI (16 - a) := pk_sub (by omega)
    have e : nI a - (16 : Int32) = -nI (16 - a) := by
      rw [← e0]
      show nI a - nI 16 = -(nI 16 - nI a)
      grobner
    obtain ⟨d1, d2, d3, d4⟩ := dgs_D (show 16 - a < 1000 by omega)
    refine ⟨45 :: dgs (16 - a), ⟨16 - a, by omega, Or.inr ⟨e, by omega, rfl⟩⟩, fun w σ => by rw [e]; exact say_m (by omega) (by omega) w σ, fun b hb => ?_, by rw [List.length_cons]; omega, ?_⟩
    · rcases List.mem_cons.mp hb with rfl | hb
      · decide
      · exact b_d (by omega) b hb
    · rw [e]
      refine (ib_neg (x := nI (16 - a)) (A := 99) ?_ (by decide)).2
      show (nI (16 - a)).toInt.natAbs ≤ 99
      rw [nI_toInt (by omega), Int.natAbs_natCast]; omega
theorem many_s (f : Nat → List Nat) : ∀ (m i : Nat), many f i (m + 1) = many f i m ++ f (i + m)
  | 0, i => by rw [many, many, many, List.append_nil]; rfl
  | m + 1, i => by
    rw [many, many_s f m (i + 1), many, List.append_assoc, show i + 1 + m = i + (m + 1) by omega]
/-- what the cells b hold -/
def CW (b : Nat → Int32) (c g ua ga : Nat) (a1 a2 a3 : Int32) (N0 R0 us up as_ am al : Nat → Nat) : Prop := b 4 = nI c ∧ b 9 = nI ua ∧ b 14 = nI ga ∧ (∀ k, k < c → b (5 + 2 * k) = nI (N0 k) ∧ b (6 + 2 * k) = nI (R0 k)) ∧ (∀ k, k < ua → b (10 + 2 * k) = nI (us k) ∧ b (11 + 2 * k) = nI (up k)) ∧ (∀ k, k < ga → b (15 + 3 * k) = nI (as_ k) ∧ b (16 + 3 * k) = nI (am k) ∧ b (17 + 3 * k) = nI (al k))
def ROK (c g ua ga : Nat) (a1 a2 a3 : Int32) (N0 R0 : Nat → Nat) (X : Option (Int32 × (Nat → Int32) × k_SB)) : Prop := ∃ w' σ', X = some (1, w', σ') ∧ KK c g ua ga a1 a2 a3 N0 R0 σ'
section SAY
variable {c g ua ga : Nat} {a1 a2 a3 : Int32} {N0 R0 us up as_ am al : Nat → Nat} {l1 l2 l3 : List Nat} {b : Nat → Int32}
theorem b9r : (9 : Int32).toNatClampNeg = 9 := by decide
theorem b14r : (14 : Int32).toNatClampNeg = 14 := by decide
theorem s_70 (hD : TD c ua ga N0 R0 us up as_ am al) (hW : CW b c g ua ga a1 a2 a3 N0 R0 us up as_ am al) (y1 : SG a1 l1) (y2 : SG a2 l2) (y3 : SG a3 l3) (hg : g ≤ 100) {P : List Nat} (hT : P ++ many (liA as_ am al) 0 ga = TX c ua ga g l1 l2 l3 N0 R0 us up as_ am al) : ∀ (f k : Nat) (w : Nat → Int32) (σ : k_SB), k ≤ ga → ga - k < f → PT (P ++ many (liA as_ am al) 0 k) w σ → (P ++ many (liA as_ am al) 0 k).length ≤ 350 + 20 * k → ROK c g ua ga a1 a2 a3 N0 R0 (f_L_rest_70 f (nI k) w b σ)
  | 0, _, _, _, _, h, _, _ => absurd h (Nat.not_lt_zero _)
  | f + 1, k, w, σ, hk, hf, hP, hl => by
    have g2 := hD.2.2.1
    have c2 := hD.1.2
    rw [f_L_rest_70, gd_t _ (by decide), b14r, hW.2.2.1]
    by_cases q : k = ga
    · rw [q, if_pos (Int32.le_refl _)]
      rw [q] at hP hl
      obtain ⟨w', σ', e, h1, h2, h3, h4, h5⟩ := said_1 hP (by omega)
      have R := RT_of _ 0 (fun i hi => by rw [Nat.zero_add]; exact h5 i hi)
      rw [Nat.zero_add, hT] at R
      obtain ⟨o, z1, z2, z3, z4⟩ := z_lab hD y1 y2 y3 hg h3 (by rw [← hT]; exact h2) h4 R
      rw [hT] at h1
      rw [h1, bd_s]
      dsimp only
      rw [z1, bd_s, gd_t _ z2, lt_q, gd_t _ (by decide), b4r, hW.1, z3, if_pos rfl]
      exact ⟨_, _, rfl, z4⟩
    · have hk' : k < ga := by omega
      obtain ⟨q1, q2, q3, q4, q5⟩ := hD.2.2.2.2.2 k hk'
      obtain ⟨v1, v2, v3⟩ := hW.2.2.2.2.2 k hk'
      have w1 : b (nI (15 + 3 * k)).toNatClampNeg = nI (as_ k) := by rw [nI_clamp (by omega)]; exact v1
      have w2 : b (nI (16 + 3 * k)).toNatClampNeg = nI (am k) := by rw [nI_clamp (by omega)]; exact v2
      have w3 : b (nI (17 + 3 * k)).toNatClampNeg = nI (al k) := by rw [nI_clamp (by omega)]; exact v3
      obtain ⟨d1, d2, d3, d4⟩ := dgs_D (show am k < 1000 by omega)
      obtain ⟨f1, f2, f3, f4⟩ := dgs_D (show al k < 1000 by omega)
      rw [if_neg (nI_ge hk' (by omega)), show (15 : Int32) + ((3 : Int32) * nI k) = nI (15 + 3 * k) from by rw [show (3 : Int32) * nI k = nI (3 * k) from pk_mul 3 _]; exact nI_add 15 _, show (16 : Int32) + ((3 : Int32) * nI k) = nI (16 + 3 * k) from by rw [show (3 : Int32) * nI k = nI (3 * k) from pk_mul 3 _]; exact nI_add 16 _, show (17 : Int32) + ((3 : Int32) * nI k) = nI (17 + 3 * k) from by rw [show (3 : Int32) * nI k = nI (3 * k) from pk_mul 3 _]; exact nI_add 17 _]
      refine tz (bs := [59, 97, 103, 114, 101, 101, 100, 32]) (n := 8) hP (say_c (by decide +kernel) _ _) (By_b rfl) (Nat.le_refl _) (by omega) fun w σ hP hn => ?_
      refine tz (bs := [115]) (n := 1) hP (say_c (by decide +kernel) _ _) (By_b rfl) (Nat.le_refl _) (by omega) fun w σ hP hn => ?_
      rw [gd_t _ (nI_in (by omega) (by decide)), w1, show (97 : Int32) + nI (as_ k) = nI (97 + as_ k) from nI_add 97 _]
      refine tz (bs := [97 + as_ k]) (n := 1) hP (puts_1 _ _ _) (b_1 (by omega)) (Nat.le_refl _) (by omega) fun w σ hP hn => ?_
      refine tz (bs := [32]) (n := 1) hP (puts_1 (nI 32) _ _) (By_b rfl) (Nat.le_refl _) (by omega) fun w σ hP hn => ?_
      rw [gd_t _ (nI_in (by omega) (by decide)), w2]
      refine tz (bs := dgs (am k)) (n := 3) hP (say_n (by omega) _ _) (b_d (by omega)) (by omega) (by omega) fun w σ hP hn => ?_
      refine tz (bs := [32]) (n := 1) hP (puts_1 (nI 32) _ _) (By_b rfl) (Nat.le_refl _) (by omega) fun w σ hP hn => ?_
      rw [gd_t _ (nI_in (by omega) (by decide)), w3]
      refine tz (bs := dgs (al k)) (n := 3) hP (say_n (by omega) _ _) (b_d (by omega)) (by omega) (by omega) fun w σ hP hn => ?_
      have tx : P ++ many (liA as_ am al) 0 k ++ [59, 97, 103, 114, 101, 101, 100, 32] ++ [115] ++ [97 + as_ k] ++ [32] ++ dgs (am k) ++ [32] ++ dgs (al k) = P ++ many (liA as_ am al) 0 (k + 1) := by
        rw [many_s, Nat.zero_add]
        simp only [List.append_assoc]
        rfl
      rw [nI_1]
      rw [tx] at hP hn
      exact s_70 hD hW y1 y2 y3 hg hT f (k + 1) w σ (by omega) (by omega) hP (by omega)
theorem s_2 (hD : TD c ua ga N0 R0 us up as_ am al) (hW : CW b c g ua ga a1 a2 a3 N0 R0 us up as_ am al) (y1 : SG a1 l1) (y2 : SG a2 l2) (y3 : SG a3 l3) (hg : g ≤ 100) {P : List Nat} (hT : P ++ (many (liU us up) 0 ua ++ many (liA as_ am al) 0 ga) = TX c ua ga g l1 l2 l3 N0 R0 us up as_ am al) : ∀ (f k : Nat) (w : Nat → Int32) (σ : k_SB), k ≤ ua → ua - k < f → PT (P ++ many (liU us up) 0 k) w σ → (P ++ many (liU us up) 0 k).length ≤ 300 + 20 * k → ROK c g ua ga a1 a2 a3 N0 R0 (f_L_rest_2 f (nI k) w b σ)
  | 0, _, _, _, _, h, _, _ => absurd h (Nat.not_lt_zero _)
  | f + 1, k, w, σ, hk, hf, hP, hl => by
    have u2 := hD.2.1
    have c2 := hD.1.2
    rw [f_L_rest_2, gd_t _ (by decide), b9r, hW.2.1]
    by_cases q : k = ua
    · rw [q, if_pos (Int32.le_refl _), ← nI_0]
      rw [q] at hP hl
      exact s_70 hD hW y1 y2 y3 hg (by rw [List.append_assoc]; exact hT) kFU 0 w σ (Nat.zero_le _) (by have := hD.2.2.1; unfold kFU; omega) (by rw [many, List.append_nil]; exact hP) (by rw [many, List.append_nil]; omega)
    · have hk' : k < ua := by omega
      obtain ⟨q1, q2, q5⟩ := hD.2.2.2.2.1 k hk'
      have q3 := (hD.2.2.2.1 (us k) q1).2.1
      obtain ⟨v1, v2⟩ := hW.2.2.2.2.1 k hk'
      have w1 : b (nI (10 + 2 * k)).toNatClampNeg = nI (us k) := by rw [nI_clamp (by omega)]; exact v1
      have w2 : b (nI (11 + 2 * k)).toNatClampNeg = nI (up k) := by rw [nI_clamp (by omega)]; exact v2
      obtain ⟨d1, d2, d3, d4⟩ := dgs_D (show up k < 1000 by omega)
      rw [if_neg (nI_ge hk' (by omega)), show (10 : Int32) + ((2 : Int32) * nI k) = nI (10 + 2 * k) from by rw [show (2 : Int32) * nI k = nI (2 * k) from pk_mul 2 _]; exact nI_add 10 _, show (11 : Int32) + ((2 : Int32) * nI k) = nI (11 + 2 * k) from by rw [show (2 : Int32) * nI k = nI (2 * k) from pk_mul 2 _]; exact nI_add 11 _]
      refine tz (bs := [59, 117, 110, 115, 117, 114, 101, 32]) (n := 8) hP (say_c (by decide +kernel) _ _) (By_b rfl) (Nat.le_refl _) (by omega) fun w σ hP hn => ?_
      refine tz (bs := [115]) (n := 1) hP (say_c (by decide +kernel) _ _) (By_b rfl) (Nat.le_refl _) (by omega) fun w σ hP hn => ?_
      rw [gd_t _ (nI_in (by omega) (by decide)), w1, show (97 : Int32) + nI (us k) = nI (97 + us k) from nI_add 97 _]
      refine tz (bs := [97 + us k]) (n := 1) hP (puts_1 _ _ _) (b_1 (by omega)) (Nat.le_refl _) (by omega) fun w σ hP hn => ?_
      refine tz (bs := [32]) (n := 1) hP (puts_1 (nI 32) _ _) (By_b rfl) (Nat.le_refl _) (by omega) fun w σ hP hn => ?_
      rw [gd_t _ (nI_in (by omega) (by decide)), w2]
      refine tz (bs := dgs (up k)) (n := 3) hP (say_n (by omega) _ _) (b_d (by omega)) (by omega) (by omega) fun w σ hP hn => ?_
      have tx : P ++ many (liU us up) 0 k ++ [59, 117, 110, 115, 117, 114, 101, 32] ++ [115] ++ [97 + us k] ++ [32] ++ dgs (up k) = P ++ many (liU us up) 0 (k + 1) := by
        rw [many_s, Nat.zero_add]
        simp only [List.append_assoc]
        rfl
      rw [nI_1]
      rw [tx] at hP hn
      exact s_2 hD hW y1 y2 y3 hg hT f (k + 1) w σ (by omega) (by omega) hP (by omega)
/-- a row's letters said -/
theorem s_row {cL : Nat} {cX : Nat → Int32} {K : Int32 → (Nat → Int32) → (Nat → Int32) → (Nat → Int32) → k_SB → Option (Int32 × (Nat → Int32) × (Nat → Int32) × (Nat → Int32) × k_SB)} {Q : Option (Int32 × (Nat → Int32) × (Nat → Int32) × (Nat → Int32) × k_SB) → Prop} {k r : Nat} {w5 : Nat → Int32} (hk : k < 2) (hr : r < 4096) (hb : b (6 + 2 * k) = nI r) {L : List Nat} (go : ∀ (w : Nat → Int32) (σ : k_SB), PT L w σ → Q (K (nI k + 1) w b w5 σ)) : ∀ (f n : Nat) (l : List Nat) (w : Nat → Int32) (σ : k_SB), n ≤ 12 → n < f → PT l w σ → l ++ RwL r n = L → L.length ≤ 400 → Q (f_L_told_547 cL cX K f (nI k) (nI n + (-1)) w b w5 σ)
  | 0, _, _, _, _, _, h, _, _, _ => absurd h (Nat.not_lt_zero _)
  | f + 1, 0, l, w, σ, _, _, hP, hl, _ => by
    rw [f_L_told_547, if_pos (show nI 0 + (-1) < 0 by decide)]
    rw [RwL, List.append_nil] at hl
    exact go w σ (hl ▸ hP)
  | f + 1, n + 1, l, w, σ, hn, hf, hP, hl, hL => by
    have w6 : b (nI (6 + 2 * k)).toNatClampNeg = nI r := by rw [nI_clamp (by omega)]; exact hb
    have ll : (l ++ RwL r (n + 1)).length ≤ 400 := by rw [hl]; exact hL
    rw [List.length_append, RwL_len] at ll
    rw [f_L_told_547, pk_m1, if_neg (nI_pos (by omega)), show (6 : Int32) + ((2 : Int32) * nI k) = nI (6 + 2 * k) from by rw [show (2 : Int32) * nI k = nI (2 * k) from pk_mul 2 _]; exact nI_add 6 _, gd_t _ (nI_in (by omega) (by decide)), w6, rb_bit (by omega) (by omega)]
    have nx : ∀ (x : Nat), x < 256 → (if r / 2 ^ n % 2 = 1 then 117 else 100) = x → Q (f_L_told_580 cL cX K (fun x7 x8 w_a1 w_a4 w_a5 σ => f_L_told_547 cL cX K f x7 x8 w_a1 w_a4 w_a5 σ) (nI k) (nI n) (nI x) w b w5 σ) := fun x hx he => by
      rw [f_L_told_580]
      refine tz (bs := [x]) (n := 1) hP (puts_1 _ _ _) (b_1 hx) (Nat.le_refl _) (by omega) fun w σ hP hn' => ?_
      refine s_row (cL := cL) (cX := cX) hk hr hb go f n (l ++ [x]) w σ (by omega) (by omega) hP ?_ hL
      rw [← hl, RwL, he, List.append_assoc]; rfl
    have m2 := Nat.mod_lt (r / 2 ^ n) (show 0 < 2 by decide)
    by_cases z : r / 2 ^ n % 2 = 1
    · rw [if_pos (show nI (r / 2 ^ n % 2) = 1 by rw [z]; rfl)]
      exact nx 117 (by decide) (if_pos z)
    · rw [if_neg (show ¬ nI (r / 2 ^ n % 2) = 1 by rw [show r / 2 ^ n % 2 = 0 by omega]; decide)]
      exact nx 100 (by decide) (if_neg z)
def TOK (c g ua ga : Nat) (a1 a2 a3 : Int32) (N0 R0 : Nat → Nat) (w4 w5 : Nat → Int32) (X : Option (Int32 × (Nat → Int32) × (Nat → Int32) × (Nat → Int32) × k_SB)) : Prop := ∃ w' σ', X = some (1, w', w4, w5, σ') ∧ KK c g ua ga a1 a2 a3 N0 R0 σ'
theorem s_500 {cL : Nat} {cX w5 : Nat → Int32} (hD : TD c ua ga N0 R0 us up as_ am al) (hW : CW b c g ua ga a1 a2 a3 N0 R0 us up as_ am al) (y1 : SG a1 l1) (y2 : SG a2 l2) (y3 : SG a3 l3) (hg : g ≤ 100) {P : List Nat} (hT : P ++ (many (liS N0 R0) 0 c ++ (many (liU us up) 0 ua ++ many (liA as_ am al) 0 ga)) = TX c ua ga g l1 l2 l3 N0 R0 us up as_ am al) : ∀ (f k : Nat) (w : Nat → Int32) (σ : k_SB), k ≤ c → c - k < f → PT (P ++ many (liS N0 R0) 0 k) w σ → (P ++ many (liS N0 R0) 0 k).length ≤ 200 + 30 * k → TOK c g ua ga a1 a2 a3 N0 R0 b w5 (f_L_told_500 cL cX f (nI k) w b w5 σ)
  | 0, _, _, _, _, h, _, _ => absurd h (Nat.not_lt_zero _)
  | f + 1, k, w, σ, hk, hf, hP, hl => by
    have c2 := hD.1.2
    rw [f_L_told_500, gd_t _ (by decide), b4r, hW.1]
    by_cases q : k = c
    · rw [q, if_pos (Int32.le_refl _), f_L_rest, ← nI_0]
      rw [q] at hP hl
      obtain ⟨w', σ', e, kk⟩ := s_2 hD hW y1 y2 y3 hg (P := P ++ many (liS N0 R0) 0 c) (by rw [List.append_assoc]; exact hT) kFU 0 w σ (Nat.zero_le _) (by have := hD.2.1; unfold kFU; omega) (by rw [many, List.append_nil]; exact hP) (by rw [many, List.append_nil]; omega)
      rw [e, bd_s]
      dsimp only
      rw [gd_t _ (Or.inr rfl)]
      exact ⟨_, _, rfl, kk⟩
    · have hk' : k < c := by omega
      obtain ⟨q1, q2, q3⟩ := hD.2.2.2.1 k hk'
      obtain ⟨v1, v2⟩ := hW.2.2.2.1 k hk'
      have rl : R0 k < 4096 := Nat.lt_of_lt_of_le q3 (Nat.pow_le_pow_right (by decide) q2)
      have w1 : b (nI (5 + 2 * k)).toNatClampNeg = nI (N0 k) := by rw [nI_clamp (by omega)]; exact v1
      rw [if_neg (nI_ge hk' (by omega)), show (97 : Int32) + nI k = nI (97 + k) from nI_add 97 _, show (5 : Int32) + ((2 : Int32) * nI k) = nI (5 + 2 * k) from by rw [show (2 : Int32) * nI k = nI (2 * k) from pk_mul 2 _]; exact nI_add 5 _]
      refine tz (bs := [59, 115, 116, 97, 99, 107, 32, 115]) (n := 8) hP (say_c (by decide +kernel) _ _) (By_b rfl) (Nat.le_refl _) (by omega) fun w σ hP hn => ?_
      refine tz (bs := [97 + k]) (n := 1) hP (puts_1 _ _ _) (b_1 (by omega)) (Nat.le_refl _) (by omega) fun w σ hP hn => ?_
      refine tz (bs := [32]) (n := 1) hP (puts_1 (nI 32) _ _) (By_b rfl) (Nat.le_refl _) (by omega) fun w σ hP hn => ?_
      rw [gd_t _ (nI_in (by omega) (by decide)), w1, lt_q, show nI (N0 k) - (1 : Int32) = nI (N0 k) + (-1) by rw [Int32.sub_eq_add_neg]]
      refine s_row (cL := cL) (cX := cX) (L := P ++ many (liS N0 R0) 0 (k + 1)) (Q := TOK c g ua ga a1 a2 a3 N0 R0 b w5) (by omega) rl v2 (fun w σ hP => ?_) kFU (N0 k) _ w σ q2 (by unfold kFU; omega) hP ?_ ?_
      · rw [nI_1]
        refine s_500 hD hW y1 y2 y3 hg hT f (k + 1) w σ (by omega) (by omega) hP ?_
        rw [many_s, Nat.zero_add, ← List.append_assoc, List.length_append]
        have : (liS N0 R0 k).length = 10 + N0 k := by
          show (RwL (R0 k) (N0 k)).length + 1 + 1 + 1 + 1 + 1 + 1 + 1 + 1 + 1 + 1 = _
          rw [RwL_len]; omega
        omega
      · rw [many_s, Nat.zero_add]
        simp only [List.append_assoc]
        rfl
      · rw [many_s, Nat.zero_add, ← List.append_assoc, List.length_append]
        have : (liS N0 R0 k).length = 10 + N0 k := by
          show (RwL (R0 k) (N0 k)).length + 1 + 1 + 1 + 1 + 1 + 1 + 1 + 1 + 1 + 1 = _
          rw [RwL_len]; omega
        omega
end SAY
