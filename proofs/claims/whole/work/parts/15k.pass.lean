/-! THE LOWEST PASS -/
theorem Rch_mono {E : Nat → Int32} {n a b : Nat} {u v : Int32} (h : u ≤ v) (hR : Rch E n u a b) : Rch E n v a b := fun S h0 hc => hR S h0 (fun x k hx hk hs he => hc x k hx hk hs (Int32.le_trans he h))
theorem top_bit {n x : Nat} (h1 : 1 ≤ n) (h2 : n ≤ 12) (hx : x < 2 ^ n) (h0 : x ≠ 0) : Nat.log2 x < n ∧ Nat.xor x (2 ^ Nat.log2 x) < x := by
  have h := of_decide_eq_true (allR_at (p := fun n x => decide (x = 0 ∨ (Nat.log2 x < n ∧ Nat.xor x (2 ^ Nat.log2 x) < x))) (by decide +kernel) h1 h2 hx)
  rcases h with h | h
  · exact absurd h h0
  · exact h
theorem Rch_top {E : Nat → Int32} {n a b : Nat} {u : Int32} (h1 : 1 ≤ n) (h2 : n ≤ 12) (ha : a < 2 ^ n) (hb : b < 2 ^ n) (h : ∀ j, j < 2 ^ n → E j ≤ u) : Rch E n u a b := by
  intro S h0 hc
  have flip : ∀ x k, x < 2 ^ n → k < n → (S x ↔ S (Nat.xor x (2 ^ k))) := fun x k hx hk => by
    have hy := rx_k hx hk
    refine ⟨fun hs => hc x k hx hk hs (h _ hy), fun hs => ?_⟩
    have := hc _ k hy hk hs (by
      rw [show Nat.xor (Nat.xor x (2 ^ k)) (2 ^ k) = x from (Nat.xor_assoc x (2 ^ k) (2 ^ k)).trans (by rw [Nat.xor_self, Nat.xor_zero])]
      exact h x hx)
    rw [show Nat.xor (Nat.xor x (2 ^ k)) (2 ^ k) = x from (Nat.xor_assoc x (2 ^ k) (2 ^ k)).trans (by rw [Nat.xor_self, Nat.xor_zero])] at this
    exact this
  have all : ∀ N x, x < N → x < 2 ^ n → (S x ↔ S 0) := by
    intro N
    induction N with
    | zero => intro x hx; exact absurd hx (Nat.not_lt_zero x)
    | succ N ih =>
      intro x hx hx2
      by_cases e : x = 0
      · rw [e]
      · obtain ⟨t1, t2⟩ := top_bit h1 h2 hx2 e
        rw [flip x _ hx2 t1]
        exact ih _ (by omega) (by omega)
  exact (all (b + 1) b (by omega) hb).mpr ((all (a + 1) a (by omega) ha).mp h0)
/-- below v, from L0 on, nothing leads from a to b -/
def LOWp (E : Nat → Int32) (n a b : Nat) (L0 v : Int32) : Prop := ∀ u : Int32, L0 ≤ u → u < v → ¬ Rch E n u a b
theorem LOWp_eq {E : Nat → Int32} {n a b : Nat} {L0 v v' : Int32} (h : Rch E n v a b) (h' : Rch E n v' a b) (l : L0 ≤ v) (l' : L0 ≤ v') (g : LOWp E n a b L0 v) (g' : LOWp E n a b L0 v') : v = v' := by
  have n1 : ¬ v < v' := fun z => g' v l z h
  have n2 : ¬ v' < v := fun z => g v' l' z h'
  rw [Int32.lt_iff_toInt_lt] at n1 n2
  exact Int32.toInt_inj.mp (by omega)
theorem x5_pass_23 {E : Nat → Int32} {n a b : Nat} {L0 : Int32} {w : Nat → Int32} (h1 : 1 ≤ n) (h2 : n ≤ 12) (hw : ∀ j, j < 2 ^ n → w j = E j) (ha : a < 2 ^ n) (hb : b < 2 ^ n) (hE : ∀ j, j < 2 ^ n → ib (E j) 3564) (hp : ∀ i j, i < 2 ^ n → j < 2 ^ n → ∃ z : Int, (E i).toInt = (E j).toInt + 2 * z) : ∀ (f rise : Nat) (lim la q : Int32) (line seen : Nat → Int32), 4096 - rise < f → L0 ≤ lim → LOWp E n a b L0 lim → (∃ y, y < 2 ^ n ∧ lim = E y) → -3564 + 2 * (rise : Int) ≤ lim.toInt →
    ∃ (v la' q' : Int32) (line' seen' : Nat → Int32), Rch E n v a b ∧ L0 ≤ v ∧ LOWp E n a b L0 v ∧ f_X5_lowestPass_23 f (nI a) (nI b) lim (nI rise) la q (nI n) w line seen = some (v, la', q', line', seen')
  | 0, _, _, _, _, _, _, h, _, _, _, _ => absurd h (Nat.not_lt_zero _)
  | f + 1, rise, lim, la, q, line, seen, hf, hl, hL, ⟨y0, y1, y2⟩, hr => by
    have p := p4096 h2
    have b0 := hE y0 y1
    rw [← y2] at b0
    unfold ib at b0
    have rl : rise ≤ 3564 := by omega
    obtain ⟨m, la', line', seen', c1, c2, c3⟩ := x5_flood (lim := lim) (la := la) (QD := q) h2 hw ha line seen
    rw [f_X5_lowestPass_23, show (4096 : Int32) = nI 4096 from rfl, if_neg (nI_ge (by omega) (by omega)), c3, bd_s, if_neg (nI_pos (by omega)), if_neg (nI_ge (show b < 4096 by omega) (by omega)), gd_t _ (nI_in (by omega) (by omega)), nI_clamp (by omega)]
    rcases c1.2.1 b hb with ⟨g, gR⟩ | ⟨g, gR⟩
    · rw [if_neg (show ¬ seen' b = 0 by rw [g]; decide)]
      exact ⟨lim, _, _, _, _, gR, hl, hL, rfl⟩
    · rw [if_pos g, f_X5_lowestPass_62, nI_1]
      have shut : ∀ u : Int32, lim ≤ u → u < la' → ¬ Rch E n u a b := fun u hu hu2 hR => by
        have := hR (fun r => r < 2 ^ n ∧ seen' r = 1) ⟨ha, by
          rcases c1.2.1 a ha with ⟨k, -⟩ | ⟨-, k⟩
          · exact k
          · exact absurd (Rch_0 _ _ _ _) k⟩ (fun x k hx hk hs he => by
          refine ⟨rx_k hx hk, ?_⟩
          by_cases z : E (Nat.xor x (2 ^ k)) ≤ lim
          · rcases c1.2.1 x hx with ⟨-, k1⟩ | ⟨k1, -⟩
            · rcases c1.2.1 _ (rx_k hx hk) with ⟨k2, -⟩ | ⟨-, k2⟩
              · exact k2
              · exact absurd (Rch_s hx hk k1 z) k2
            · rw [hs.2] at k1; exact absurd k1 (by decide)
          · have := c2.2 x k hx hk hs.2 (by rw [Int32.le_iff_toInt_le] at z; rw [Int32.lt_iff_toInt_lt]; omega)
            rw [Int32.lt_iff_toInt_lt] at hu2
            rw [Int32.le_iff_toInt_le] at this he
            omega)
        rw [this.2] at g
        exact absurd g (by decide)
      have hL' : LOWp E n a b L0 la' := fun u hu hu2 => by
        by_cases z : u < lim
        · exact hL u hu z
        · exact shut u (by rw [Int32.lt_iff_toInt_lt] at z; rw [Int32.le_iff_toInt_le]; omega) hu2
      have e : ∃ y, y < 2 ^ n ∧ la' = E y ∧ lim < E y := by
        rcases c2.1 with z | z
        · exfalso
          have t : Rch E n 3564 a b := Rch_top h1 h2 ha hb (fun j hj => by
            have := hE j hj
            unfold ib at this
            rw [Int32.le_iff_toInt_le, show (3564 : Int32).toInt = 3564 by decide]
            omega)
          refine hL' 3564 ?_ ?_ t
          · rw [Int32.le_iff_toInt_le] at hl ⊢
            rw [show (3564 : Int32).toInt = 3564 by decide]
            omega
          · rw [z]; decide
        · exact z
      obtain ⟨y, z1, z2, z3⟩ := e
      obtain ⟨zz, hz⟩ := hp y y0 z1 y1
      rw [← y2] at hz
      rw [Int32.lt_iff_toInt_lt] at z3
      have step : lim.toInt + 2 ≤ la'.toInt := by rw [z2]; omega
      exact x5_pass_23 h1 h2 hw ha hb hE hp f (rise + 1) la' la' (nI m) line' seen' (by omega) (by rw [Int32.le_iff_toInt_le] at hl ⊢; omega) hL' ⟨y, z1, z2⟩ (by omega)
theorem lim_mid {low : Int32} {D : Nat} (hl : ib low 100000) (hD : D ≤ 110000) : (low + nI D).toInt = low.toInt + D := by
  have h : ib (nI D) 110000 := by unfold ib; rw [nI_toInt (by omega)]; omega
  rw [(ib_add hl h (by omega)).1, nI_toInt (by omega)]
theorem x13_pass_116 {E : Nat → Int32} {n a b : Nat} {L0 p1 p2 : Int32} {w V : Nat → Int32} {x1 x2 x3 x4 x5 x6 x7 : Int32} (h1 : 1 ≤ n) (h2 : n ≤ 12) (hw : ∀ j, j < 2 ^ n → w j = E j) (ha : a < 2 ^ n) (hb : b < 2 ^ n) (e5 : f_X13_row p1 V = some (nI a)) (k5 : f_X13_row p2 V = some (nI b)) : ∀ (f D : Nat) (low : Int32) (line seen : Nat → Int32), D + 1 ≤ 2 ^ f → D ≤ 110000 → -3564 ≤ low.toInt → low.toInt + D ≤ 99999 → L0 ≤ low → LOWp E n a b L0 low → Rch E n (low + nI D) a b →
    ∃ (v : Int32) (line' seen' : Nat → Int32), Rch E n v a b ∧ L0 ≤ v ∧ LOWp E n a b L0 v ∧ f_X13_pass_116 (f + 1) p1 p2 (nI n) low (low + nI D) x1 x2 x3 x4 x5 x6 x7 w line seen V = some (v, x1, 0, -1, w, line', seen')
  | f, D, low, line, seen, hf, hD, hl1, hl2, hl, hL, hP => by
    have p := p4096 h2
    have il : ib low 100000 := by unfold ib; omega
    have e1 := lim_mid il hD
    rw [f_X13_pass_116]
    by_cases q : D = 0
    · subst q
      rw [show low + nI 0 = low by rw [nI_0]; grobner] at hP ⊢
      rw [if_pos (Int32.le_refl _)]
      exact ⟨low, line, seen, hP, hl, hL, rfl⟩
    · obtain ⟨g, rfl⟩ : ∃ g, f = g + 1 := ⟨f - 1, by
        rcases Nat.eq_zero_or_pos f with z | z
        · rw [z] at hf; omega
        · omega⟩
      rw [Nat.pow_succ] at hf
      have md : (low + nI D) - low = nI D := by grobner
      have e2 := lim_mid il (show D / 2 ≤ 110000 by omega)
      rw [if_neg (by rw [Int32.le_iff_toInt_le, e1]; omega), lt_q, md, show (2 : Int32) = nI 2 from rfl, pk_div (by omega) (by omega) (by omega), e5, bd_s]
      obtain ⟨m, line', seen', c1, c3⟩ := x13_floods (lim := low + nI (D / 2)) h1 h2 hw ha line seen
      rw [c3, bd_s, k5, bd_s, gd_t _ (nI_in (by omega) (by omega)), nI_clamp (by omega)]
      rcases c1.2.1 b hb with ⟨y, yR⟩ | ⟨y, yR⟩
      · rw [if_neg (show ¬ seen' b = 0 by rw [y]; decide), f_X13_pass_174]
        exact x13_pass_116 h1 h2 hw ha hb e5 k5 g (D / 2) low line' seen' (by omega) (by omega) hl1 (by omega) hl hL yR
      · have e3 : (low + nI (D / 2) + 1).toInt = low.toInt + (D / 2 : Nat) + 1 := by
          have i2 : ib (low + nI (D / 2)) 200000 := by unfold ib; omega
          rw [(ib_add i2 (show ib 1 1 by unfold ib; decide) (by omega)).1, e2]; rfl
        have e4 : (low + nI (D / 2) + 1) + nI (D - D / 2 - 1) = low + nI D := by
          rw [show nI D = nI (D / 2) + nI 1 + nI (D - D / 2 - 1) by rw [nI_add, nI_add]; congr 1; omega, show (1 : Int32) = nI 1 from rfl]
          grobner
        rw [if_pos y, lt_q, f_X13_pass_174]
        have IH := x13_pass_116 (L0 := L0) (x1 := x1) (x2 := x2) (x3 := x3) (x4 := x4) (x5 := x5) (x6 := x6) (x7 := x7) h1 h2 hw ha hb e5 k5 g (D - D / 2 - 1) (low + nI (D / 2) + 1) line' seen' (by omega) (by omega) (by omega) (by omega) (by rw [Int32.le_iff_toInt_le] at hl ⊢; omega) (fun u hu hu2 hR => yR (Rch_mono (by rw [Int32.lt_iff_toInt_lt] at hu2; rw [Int32.le_iff_toInt_le]; omega) hR)) (by rw [e4]; exact hP)
        rw [e4] at IH
        exact IH
theorem q_pass_eq {n a b : Nat} {e1' e2' e3' p q : Int32} {V w1 v1 : Nat → Int32} {x1 x2 x3 x4 x5 x6 x7 la QD : Int32} (h1 : 1 ≤ n) (h2 : n ≤ 12) (ha : ib e1' 99) (hb : ib e2' 99) (hc : ib e3' 99) (hr : a < 2 ^ n) (hr' : b < 2 ^ n) (k2 : ∀ j, j < 2 ^ n → w1 j = eE n j e1' e2' e3') (k4 : ∀ j, j < 2 ^ n → v1 j = eE n j e1' e2' e3') (e5 : f_X13_row p V = some (nI a)) (k5 : f_X13_row q V = some (nI b)) (w2 w3 v2 v3 : Nat → Int32) (L0 : Int32) (hL0 : L0 = eE n a e1' e2' e3' ∨ L0 = eE n b e1' e2' e3') (hLa : eE n a e1' e2' e3' ≤ L0) (hLb : eE n b e1' e2' e3' ≤ L0) :
    ∃ (v la' q' : Int32) (w2' w3' v2' v3' : Nat → Int32), f_X5_lowestPass_23 kFU (nI a) (nI b) L0 0 la QD (nI n) w1 w2 w3 = some (v, la', q', w2', w3') ∧ f_X13_pass_116 kFU p q (nI n) L0 99999 x1 x2 x3 x4 x5 x6 x7 v1 v2 v3 V = some (v, x1, 0, -1, v1, v2', v3') := by
  have l := p4096 h2
  have hE : ∀ j, j < 2 ^ n → ib (eE n j e1' e2' e3') 3564 := fun j _ => (eE_ib h2 ha hb hc).1
  have bL : ib L0 3564 := by rcases hL0 with z | z <;> rw [z] <;> exact hE _ ‹_›
  have yL : ∃ y, y < 2 ^ n ∧ L0 = eE n y e1' e2' e3' := by
    rcases hL0 with z | z
    · exact ⟨a, hr, z⟩
    · exact ⟨b, hr', z⟩
  have bL' := bL
  unfold ib at bL'
  have lw : LOWp (fun j => eE n j e1' e2' e3') n a b L0 L0 := fun u hu hu2 => by
    rw [Int32.lt_iff_toInt_lt] at hu2
    rw [Int32.le_iff_toInt_le] at hu
    omega
  obtain ⟨v, la', q', w2', w3', r1, r2, r3, r4⟩ := x5_pass_23 (E := fun j => eE n j e1' e2' e3') (L0 := L0) h1 h2 k2 hr hr' hE (fun i j _ _ => eE_par h2 ha hb hc) kFU 0 L0 la QD w2 w3 (by unfold kFU; omega) (Int32.le_refl _) lw yL (by omega)
  have iL : ib L0 100000 := by unfold ib; omega
  obtain ⟨D, hD⟩ : ∃ D : Nat, (D : Int) = 99999 - L0.toInt := ⟨(99999 - L0.toInt).toNat, by omega⟩
  have e9 : L0 + nI D = 99999 := Int32.toInt_inj.mp (by rw [lim_mid iL (by omega), show (99999 : Int32).toInt = 99999 by decide]; omega)
  have pw : 2 ^ 17 ≤ 2 ^ 99999 := Nat.pow_le_pow_right (by decide) (by decide)
  have p17 : (2 : Nat) ^ 17 = 131072 := by decide
  obtain ⟨v', v2', v3', s1, s2, s3, s4⟩ := x13_pass_116 (E := fun j => eE n j e1' e2' e3') (L0 := L0) (x1 := x1) (x2 := x2) (x3 := x3) (x4 := x4) (x5 := x5) (x6 := x6) (x7 := x7) h1 h2 k4 hr hr' e5 k5 99999 D L0 v2 v3 (by omega) (by omega) (by omega) (by omega) (Int32.le_refl _) lw (by
    rw [e9]
    exact Rch_top h1 h2 hr hr' (fun j hj => by
      have := hE j hj
      unfold ib at this
      rw [Int32.le_iff_toInt_le, show (99999 : Int32).toInt = 99999 by decide]
      omega))
  rw [e9] at s4
  have ev := LOWp_eq r1 s1 r2 s2 r3 s3
  subst ev
  exact ⟨v, la', q', w2', w3', v2', v3', r4, s4⟩
theorem q_pass {c : Nat} {L R V : Nat → Int32} (h : SV c L R V) (p q t u1 u2 u3 u4 a b d e1' e2' e3' : Int32) (w1 w2 w3 v1 v2 v3 : Nat → Int32) (ha : ib e1' 99) (hb : ib e2' 99) (hc : ib e3' 99) : ∃ (x y u1' u2' u3' u4' : Int32) (w1' w2' w3' v1' v2' v3' : Nat → Int32), y ≠ 4 ∧ f_X11_pass p q t u1 u2 u3 u4 (nI c) e1' e2' e3' w1 w2 w3 L R = some (x, y, u1', u2', u3', u4', w1', w2', w3') ∧ f_X13_pass p q a b d e1' e2' (nI c) e3' v1 v2 v3 V = some (x, 0, y, -1, v1', v2', v3') := by
  rcases q_sv h p with ⟨s, n, r, hs, hs5, h1, h2, hr, -, -, -, e1, e2, e3, e4, e5, e6⟩ | ⟨e1, e2⟩
  · rcases q_sv h q with ⟨s', n', r', hs', hs5', h1', h2', hr', -, -, -, k1, k2, k3, k4, k5, k6⟩ | ⟨k1, k2⟩
    · by_cases e : n = n'
      · subst e
        have g1 : 1 ≤ n := by omega
        have l := p4096 h2
        obtain ⟨w1', m1, m2⟩ := x5_survey (a := e1') (b := e2') (c := e3') (rw' := u3) (st := u4) g1 h2 w1
        obtain ⟨v1', m3, m4⟩ := x13_laysE (a := e1') (b := e2') (c := e3') g1 h2 v1
        have key : ∀ L0 : Int32, (L0 = eE n r e1' e2' e3' ∨ L0 = eE n r' e1' e2' e3') → eE n r e1' e2' e3' ≤ L0 → eE n r' e1' e2' e3' ≤ L0 → _ := fun L0 z1 z2 z3 => q_pass_eq (x1 := 0) (x2 := b) (x3 := d) (x4 := e1') (x5 := e2') (x6 := nI c) (x7 := e3') (la := u1) (QD := u2) g1 h2 ha hb hc hr hr' m2 m4 e5 k5 w2 w3 v2 v3 L0 z1 z2 z3
        by_cases z : eE n r e1' e2' e3' ≤ eE n r' e1' e2' e3'
        · obtain ⟨v, la', q', w2', w3', v2', v3', r1, r2⟩ := key _ (Or.inr rfl) z (Int32.le_refl _)
          have mx : (if eE n r e1' e2' e3' < eE n r' e1' e2' e3' then eE n r' e1' e2' e3' else eE n r e1' e2' e3') = eE n r' e1' e2' e3' := by
            by_cases y : eE n r e1' e2' e3' < eE n r' e1' e2' e3'
            · rw [if_pos y]
            · rw [if_neg y]
              rw [Int32.le_iff_toInt_le] at z
              rw [Int32.lt_iff_toInt_lt] at y
              exact Int32.toInt_inj.mp (by omega)
          refine ⟨v, 0, la', q', nI (2 ^ n), nI n, w1', w2', w3', v1', v2', v3', by decide, ?_, ?_⟩
          · simp only [f_X11_pass, e1, e3, e4, k1, k3, k4, m1, bd_s, if_true, f_X5_lowestPass, x11_at (show 4096 < 2 ^ 31 by omega) (show r < 4096 by omega), x11_at (show 4096 < 2 ^ 31 by omega) (show r' < 4096 by omega), m2 r hr, m2 r' hr', mx, lt_q, r1, f_X11_granted]
          · simp only [f_X13_pass, e2, e5, e6, k2, k5, k6, m3, bd_s, i10, if_true, if_false, f_X13_pass_109]
            have cr : (nI r).toNatClampNeg = r := nI_clamp (by omega)
            have cr' : (nI r').toNatClampNeg = r' := nI_clamp (by omega)
            rw [gd_t _ (nI_in (by omega) (by omega)), gd_t _ (nI_in (by omega) (by omega)), if_pos (show v1' (nI r).toNatClampNeg ≤ v1' (nI r').toNatClampNeg by rw [cr, cr', m4 r hr, m4 r' hr']; exact z), gd_t _ (nI_in (by omega) (by omega)), cr', m4 r' hr']
            exact r2
        · have z' : eE n r' e1' e2' e3' < eE n r e1' e2' e3' := by rw [Int32.le_iff_toInt_le] at z; rw [Int32.lt_iff_toInt_lt]; omega
          obtain ⟨v, la', q', w2', w3', v2', v3', r1, r2⟩ := key _ (Or.inl rfl) (Int32.le_refl _) (by rw [Int32.lt_iff_toInt_lt] at z'; rw [Int32.le_iff_toInt_le]; omega)
          have mx : (if eE n r e1' e2' e3' < eE n r' e1' e2' e3' then eE n r' e1' e2' e3' else eE n r e1' e2' e3') = eE n r e1' e2' e3' := if_neg (fun y => by
            rw [Int32.lt_iff_toInt_lt] at y z'
            omega)
          refine ⟨v, 0, la', q', nI (2 ^ n), nI n, w1', w2', w3', v1', v2', v3', by decide, ?_, ?_⟩
          · simp only [f_X11_pass, e1, e3, e4, k1, k3, k4, m1, bd_s, if_true, f_X5_lowestPass, x11_at (show 4096 < 2 ^ 31 by omega) (show r < 4096 by omega), x11_at (show 4096 < 2 ^ 31 by omega) (show r' < 4096 by omega), m2 r hr, m2 r' hr', mx, lt_q, r1, f_X11_granted]
          · simp only [f_X13_pass, e2, e5, e6, k2, k5, k6, m3, bd_s, i10, if_true, if_false, f_X13_pass_109]
            have cr : (nI r).toNatClampNeg = r := nI_clamp (by omega)
            have cr' : (nI r').toNatClampNeg = r' := nI_clamp (by omega)
            rw [gd_t _ (nI_in (by omega) (by omega)), gd_t _ (nI_in (by omega) (by omega)), if_neg (show ¬ v1' (nI r).toNatClampNeg ≤ v1' (nI r').toNatClampNeg by rw [cr, cr', m4 r hr, m4 r' hr']; exact z), gd_t _ (nI_in (by omega) (by omega)), cr, m4 r hr]
            exact r2
      · have z : ¬ nI n = nI n' := fun z => e ((nI_eq (by omega) (by omega)).mp z)
        exact ⟨-1000000, 5, u1, u2, u3, u4, w1, w2, w3, v1, v2, v3, by decide, by simp only [f_X11_pass, e1, e4, k1, k4, bd_s, if_true, z, if_false, f_X11_refused], by simp only [f_X13_pass, e2, e6, k2, k6, bd_s, i10, if_false, z, f_X13_lost, f_X13_refused]⟩
    · refine ⟨-1000000, 1, u1, u2, u3, u4, w1, w2, w3, v1, v2, v3, by decide, ?_, ?_⟩
      · simp only [f_X11_pass, e1, k1, bd_s, i10, if_true, if_false, f_X11_pass_16, f_X11_refused]
      · simp only [f_X13_pass, e2, k2, bd_s, i10, if_true, if_false, f_X13_pass_21, f_X13_lost, f_X13_refused]
  · refine ⟨-1000000, 1, u1, u2, u3, u4, w1, w2, w3, v1, v2, v3, by decide, ?_, ?_⟩
    · simp only [f_X11_pass, e1, bd_s, i10, if_false, f_X11_pass_16, f_X11_refused]
    · simp only [f_X13_pass, e2, bd_s, if_true, f_X13_pass_21, f_X13_lost, f_X13_refused]
