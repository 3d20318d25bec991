/-! THE LOWEST PASS -/
theorem Rch_mono {E : Nat → Int32} {n a b : Nat} {u v : Int32} (h : u ≤ v) (hR : Rch E n u a b) : Rch E n v a b := fun S h0 hc => hR S h0 (fun x k hx hk hs he => hc x k hx hk hs (Int32.le_trans he h))
theorem top_bit {n x : Nat} (h1 : 1 ≤ n) (h2 : n ≤ 12) (hx : x < 2 ^ n) (h0 : x ≠ 0) : Nat.log2 x < n ∧ Nat.xor x (2 ^ Nat.log2 x) < x := by
  have h := of_decide_eq_true (allR_at (p := fun n x => decide (x = 0 ∨ (Nat.log2 x < n ∧ Nat.xor x (2 ^ Nat.log2 x) < x))) (by decide +kernel) h1 h2 hx)
  rcases h with h | h
  · exact absurd h h0
  · exact h
theorem Rch_top {E : Nat → Int32} {n a b : Nat} {u : Int32} (h1 : 1 ≤ n) (h2 : n ≤ 12) (ha : a < 2 ^ n) (hb : b < 2 ^ n) (h : ∀ j, j < 2 ^ n → E j ≤ u) : Rch E n u a b := by
  intro S h0 hc
  have flip : ∀ x k, x < 2 ^ n → k < n → (S x ↔ S (Nat.xor x (2 ^ k))) := fun x k hx hk => by
    have hy := rx_k hx hk
    refine ⟨fun hs => hc x k hx hk hs (h _ hy), fun hs => ?_⟩
    have := hc _ k hy hk hs (by
      rw [show Nat.xor (Nat.xor x (2 ^ k)) (2 ^ k) = x from (Nat.xor_assoc x (2 ^ k) (2 ^ k)).trans (by rw [Nat.xor_self, Nat.xor_zero])]
      exact h x hx)
    rw [show Nat.xor (Nat.xor x (2 ^ k)) (2 ^ k) = x from (Nat.xor_assoc x (2 ^ k) (2 ^ k)).trans (by rw [Nat.xor_self, Nat.xor_zero])] at this
    exact this
  have all : ∀ N x, x < N → x < 2 ^ n → (S x ↔ S 0) := by
    intro N
    induction N with
    | zero => intro x hx; exact absurd hx (Nat.not_lt_zero x)
    | succ N ih =>
      intro x hx hx2
      by_cases e : x = 0
      · rw [e]
      · obtain ⟨t1, t2⟩ := top_bit h1 h2 hx2 e
        rw [flip x _ hx2 t1]
        exact ih _ (by omega) (by omega)
  exact (all (b + 1) b (by omega) hb).mpr ((all (a + 1) a (by omega) ha).mp h0)
def LOWp (E : Nat → Int32) (n a b : Nat) (L0 v : Int32) : Prop := ∀ u : Int32, L0 ≤ u → u < v → ¬ Rch E n u a b
theorem LOWp_eq {E : Nat → Int32} {n a b : Nat} {L0 v v' : Int32} (h : Rch E n v a b) (h' : Rch E n v' a b) (l : L0 ≤ v) (l' : L0 ≤ v') (g : LOWp E n a b L0 v) (g' : LOWp E n a b L0 v') : v = v' := by
  have n1 : ¬ v < v' := fun z => g' v l z h
  have n2 : ¬ v' < v := fun z => g v' l' z h'
  rw [Int32.lt_iff_toInt_lt] at n1 n2
  exact Int32.toInt_inj.mp (by omega)
theorem x5_pass_23 {E : Nat → Int32} {n a b : Nat} {L0 : Int32} {w : Nat → Int32} (h1 : 1 ≤ n) (h2 : n ≤ 12) (hw : ∀ j, j < 2 ^ n → w j = E j) (ha : a < 2 ^ n) (hb : b < 2 ^ n) (hE : ∀ j, j < 2 ^ n → ib (E j) 3564) (hp : ∀ i j, i < 2 ^ n → j < 2 ^ n → ∃ z : Int, (E i).toInt = (E j).toInt + 2 * z) : ∀ (f rise : Nat) (lim la q : Int32) (line seen : Nat → Int32), 4096 - rise < f → L0 ≤ lim → LOWp E n a b L0 lim → (∃ y, y < 2 ^ n ∧ lim = E y) → -3564 + 2 * (rise : Int) ≤ lim.toInt →
    ∃ (v la' q' : Int32) (line' seen' : Nat → Int32), Rch E n v a b ∧ L0 ≤ v ∧ LOWp E n a b L0 v ∧ f_X5_lowestPass_23 f (nI a) (nI b) lim (nI rise) la q (nI n) w line seen = some (v, la', q', line', seen')
  | 0, _, _, _, _, _, _, h, _, _, _, _ => absurd h (Nat.not_lt_zero _)
  | f + 1, rise, lim, la, q, line, seen, hf, hl, hL, ⟨y0, y1, y2⟩, hr => by
    have p := p4096 h2
    have b0 := hE y0 y1
    rw [← y2] at b0
    unfold ib at b0
    have rl : rise ≤ 3564 := by omega
    obtain ⟨m, la', line', seen', c1, c2, c3⟩ := x5_flood (lim := lim) (la := la) (QD := q) h2 hw ha line seen
    rw [f_X5_lowestPass_23, show (4096 : Int32) = nI 4096 from rfl, if_neg (nI_ge (by omega) (by omega)), c3, bd_s, if_neg (nI_pos (by omega)), if_neg (nI_ge (show b < 4096 by omega) (by omega)), gd_t _ (nI_in (by omega) (by omega)), nI_clamp (by omega)]
    rcases c1.2.1 b hb with ⟨g, gR⟩ | ⟨g, gR⟩
    · rw [if_neg (show ¬ seen' b = 0 by rw [g]; decide)]
      exact ⟨lim, _, _, _, _, gR, hl, hL, rfl⟩
    · rw [if_pos g, f_X5_lowestPass_62, nI_1]
      have shut : ∀ u : Int32, lim ≤ u → u < la' → ¬ Rch E n u a b := fun u hu hu2 hR => by
        have := hR (fun r => r < 2 ^ n ∧ seen' r = 1) ⟨ha, by
          rcases c1.2.1 a ha with ⟨k, -⟩ | ⟨-, k⟩
          · exact k
          · exact absurd (Rch_0 _ _ _ _) k⟩ (fun x k hx hk hs he => by
          refine ⟨rx_k hx hk, ?_⟩
          by_cases z : E (Nat.xor x (2 ^ k)) ≤ lim
          · rcases c1.2.1 x hx with ⟨-, k1⟩ | ⟨k1, -⟩
            · rcases c1.2.1 _ (rx_k hx hk) with ⟨k2, -⟩ | ⟨-, k2⟩
              · exact k2
              · exact absurd (Rch_s hx hk k1 z) k2
            · rw [hs.2] at k1; exact absurd k1 (by decide)
          · have := c2.2 x k hx hk hs.2 (by rw [Int32.le_iff_toInt_le] at z; rw [Int32.lt_iff_toInt_lt]; omega)
            rw [Int32.lt_iff_toInt_lt] at hu2
            rw [Int32.le_iff_toInt_le] at this he
            omega)
        rw [this.2] at g
        exact absurd g (by decide)
      have hL' : LOWp E n a b L0 la' := fun u hu hu2 => by
        by_cases z : u < lim
        · exact hL u hu z
        · exact shut u (by rw [Int32.lt_iff_toInt_lt] at z; rw [Int32.le_iff_toInt_le]; omega) hu2
      have e : ∃ y, y < 2 ^ n ∧ la' = E y ∧ lim < E y := by
        rcases c2.1 with z | z
        · exfalso
          have t : Rch E n 3564 a b := Rch_top h1 h2 ha hb (fun j hj => by
            have := hE j hj
            unfold ib at this
            rw [Int32.le_iff_toInt_le, show (3564 : Int32).toInt = 3564 by decide]
            omega)
          refine hL' 3564 ?_ ?_ t
          · rw [Int32.le_iff_toInt_le] at hl ⊢
            rw [show (3564 : Int32).toInt = 3564 by decide]
            omega
          · rw [z]; decide
        · exact z
      obtain ⟨y, z1, z2, z3⟩ := e
      obtain ⟨zz, hz⟩ := hp y y0 z1 y1
      rw [← y2] at hz
      rw [Int32.lt_iff_toInt_lt] at z3
      have step : lim.toInt + 2 ≤ la'.toInt := by rw [z2]; omega
      exact x5_pass_23 h1 h2 hw ha hb hE hp f (rise + 1) la' la' (nI m) line' seen' (by omega) (by rw [Int32.le_iff_toInt_le] at hl ⊢; omega) hL' ⟨y, z1, z2⟩ (by omega)
theorem lim_mid {low : Int32} {D : Nat} (hl : ib low 100000) (hD : D ≤ 110000) : (low + nI D).toInt = low.toInt + D := by
  have h : ib (nI D) 110000 := by unfold ib; rw [nI_toInt (by omega)]; omega
  rw [(ib_add hl h (by omega)).1, nI_toInt (by omega)]
