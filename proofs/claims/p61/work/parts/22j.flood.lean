/-! THE ROWS THAT SLIPS LEAD TO, NONE ABOVE A LIMIT -/
def CLo (E : Nat → Int32) (n : Nat) (lim : Int32) (S : Nat → Prop) : Prop := ∀ x k, x < 2 ^ n → k < n → S x → E (Nat.xor x (2 ^ k)) ≤ lim → S (Nat.xor x (2 ^ k))
def Rch (E : Nat → Int32) (n : Nat) (lim : Int32) (a b : Nat) : Prop := ∀ S : Nat → Prop, S a → CLo E n lim S → S b
theorem Rch_0 (E : Nat → Int32) (n : Nat) (lim : Int32) (a : Nat) : Rch E n lim a a := fun _ h _ => h
theorem Rch_s {E : Nat → Int32} {n : Nat} {lim : Int32} {a x k : Nat} (hx : x < 2 ^ n) (hk : k < n) (h : Rch E n lim a x) (he : E (Nat.xor x (2 ^ k)) ≤ lim) : Rch E n lim a (Nat.xor x (2 ^ k)) := fun S h0 hc => hc x k hx hk (h S h0 hc) he
theorem rx_k {n x k : Nat} (hx : x < 2 ^ n) (hk : k < n) : Nat.xor x (2 ^ k) < 2 ^ n := rx_lt hx (Nat.pow_lt_pow_right (by decide) hk)
def FI (E : Nat → Int32) (n : Nat) (lim : Int32) (a many : Nat) (line seen : Nat → Int32) : Prop :=
  (∀ j, j < many → ∃ x, x < 2 ^ n ∧ line j = nI x ∧ seen x = 1 ∧ Rch E n lim a x) ∧ (∀ r, r < 2 ^ n → seen r = 0 ∨ (seen r = 1 ∧ ∃ j, j < many ∧ line j = nI r)) ∧ sm (fun r => if seen r = 0 then 0 else 1) (2 ^ n) = many ∧ seen a = 1
theorem FI_le {E : Nat → Int32} {n : Nat} {lim : Int32} {a many : Nat} {line seen : Nat → Int32} (h : FI E n lim a many line seen) : many ≤ 2 ^ n := by
  rw [← h.2.2.1]
  exact sm_le (fun k => by split <;> omega) _
theorem sm_upd {seen : Nat → Int32} {y : Nat} (h0 : seen y = 0) : ∀ K, sm (fun r => if upd seen y 1 r = 0 then 0 else 1) K = sm (fun r => if seen r = 0 then 0 else 1) K + (if y < K then 1 else 0)
  | 0 => rfl
  | K + 1 => by
    show sm (fun r => if upd seen y 1 r = 0 then 0 else 1) K + (if upd seen y 1 K = 0 then 0 else 1) = sm (fun r => if seen r = 0 then 0 else 1) K + (if seen K = 0 then 0 else 1) + _
    rw [sm_upd h0 K]
    by_cases e : K = y
    · subst e
      rw [pk_us, if_neg (by decide : ¬ (1 : Int32) = 0), h0, if_pos rfl, if_neg (by omega), if_pos (by omega)]
    · rw [pk_un e]
      by_cases l : y < K
      · rw [if_pos l, if_pos (show y < K + 1 by omega)]; omega
      · rw [if_neg l, if_neg (show ¬ y < K + 1 by omega)]; omega
theorem FI_add {E : Nat → Int32} {n : Nat} {lim : Int32} {a many y : Nat} {line seen : Nat → Int32} (h : FI E n lim a many line seen) (hy : y < 2 ^ n) (h0 : seen y = 0) (hR : Rch E n lim a y) : FI E n lim a (many + 1) (upd line many (nI y)) (upd seen y 1) := by
  obtain ⟨a1, a2, a3, a4⟩ := h
  have ay : a ≠ y := fun z => by rw [z, h0] at a4; exact absurd a4 (by decide)
  refine ⟨fun j hj => ?_, fun r hr => ?_, ?_, by rw [pk_un ay]; exact a4⟩
  · by_cases e : j = many
    · exact ⟨y, hy, by rw [e, pk_us], pk_us, hR⟩
    · obtain ⟨x, x1, x2, x3, x4⟩ := a1 j (by omega)
      refine ⟨x, x1, by rw [pk_un e]; exact x2, ?_, x4⟩
      by_cases e2 : x = y
      · rw [e2, pk_us]
      · rw [pk_un e2]; exact x3
  · by_cases e : r = y
    · exact Or.inr ⟨by rw [e, pk_us], many, by omega, by rw [e, pk_us]⟩
    · rw [pk_un e]
      rcases a2 r hr with g | ⟨g, j, g1, g2⟩
      · exact Or.inl g
      · exact Or.inr ⟨g, j, by omega, by rw [pk_un (by omega)]; exact g2⟩
  · rw [sm_upd h0, if_pos hy, a3]
def DNe (E : Nat → Int32) (n : Nat) (lim : Int32) (bt : Nat → Nat) (i k many : Nat) (line seen : Nat → Int32) : Prop :=
  ∀ j k', j < many → (j < i ∨ (j = i ∧ k' < k)) → k' < n → ∀ x, x < 2 ^ n → line j = nI x → E (Nat.xor x (2 ^ bt k')) ≤ lim → seen (Nat.xor x (2 ^ bt k')) = 1
theorem DNe_next {E : Nat → Int32} {n : Nat} {lim : Int32} {bt : Nat → Nat} {i many : Nat} {line seen : Nat → Int32} (h : DNe E n lim bt i n many line seen) : DNe E n lim bt (i + 1) 0 many line seen := by
  intro j k' hj hd hk x hx hl he
  refine h j k' hj ?_ hk x hx hl he
  omega
theorem DNe_step {E : Nat → Int32} {n : Nat} {lim : Int32} {bt : Nat → Nat} {i k many x : Nat} {line seen : Nat → Int32} (hn : n ≤ 12) (h : DNe E n lim bt i k many line seen) (hx : x < 2 ^ n) (hl : line i = nI x) (hs : E (Nat.xor x (2 ^ bt k)) ≤ lim → seen (Nat.xor x (2 ^ bt k)) = 1) : DNe E n lim bt i (k + 1) many line seen := by
  intro j k' hj hd hk z hz hl' he
  have p := p4096 hn
  by_cases q : j = i ∧ k' = k
  · obtain ⟨q1, q2⟩ := q
    subst q1 q2
    have e : z = x := (nI_eq (by omega) (by omega)).mp (hl'.symm.trans hl)
    subst e
    exact hs he
  · exact h j k' hj (by omega) hk z hz hl' he
theorem DNe_add {E : Nat → Int32} {n : Nat} {lim : Int32} {bt : Nat → Nat} {i k many y : Nat} {line seen : Nat → Int32} (hi : i < many) (h : DNe E n lim bt i k many line seen) : DNe E n lim bt i k (many + 1) (upd line many (nI y)) (upd seen y 1) := by
  intro j k' hj hd hk z hz hl' he
  have hj' : j < many := by omega
  rw [pk_un (show j ≠ many by omega)] at hl'
  by_cases e : Nat.xor z (2 ^ bt k') = y
  · rw [e, pk_us]
  · rw [pk_un e]
    exact h j k' hj' hd hk z hz hl' he
def FLD (E : Nat → Int32) (n : Nat) (lim : Int32) (a many : Nat) (seen : Nat → Int32) : Prop :=
  many ≤ 2 ^ n ∧ (∀ r, r < 2 ^ n → (seen r = 1 ∧ Rch E n lim a r) ∨ (seen r = 0 ∧ ¬ Rch E n lim a r)) ∧ sm (fun r => if seen r = 0 then 0 else 1) (2 ^ n) = many
theorem FLD_of {E : Nat → Int32} {n : Nat} {lim : Int32} {bt : Nat → Nat} {a many i : Nat} {line seen : Nat → Int32} (hn : n ≤ 12) (ha : a < 2 ^ n) (hb : ∀ b, b < n → ∃ k, k < n ∧ bt k = b) (h : FI E n lim a many line seen) (hd : DNe E n lim bt i 0 many line seen) (hi : many ≤ i) : FLD E n lim a many seen := by
  have cl' : ∀ r, Rch E n lim a r → r < 2 ^ n ∧ seen r = 1 := fun r hR => hR (fun r => r < 2 ^ n ∧ seen r = 1) ⟨ha, h.2.2.2⟩ (fun x k hx hk hs he => by
    refine ⟨rx_k hx hk, ?_⟩
    rcases h.2.1 x hx with g | ⟨-, j, g1, g2⟩
    · rw [hs.2] at g; exact absurd g (by decide)
    · obtain ⟨k', k1, k2⟩ := hb k hk
      rw [← k2] at he ⊢
      exact hd j k' g1 (Or.inl (by omega)) k1 x hx g2 he)
  refine ⟨FI_le h, fun r hr => ?_, h.2.2.1⟩
  rcases h.2.1 r hr with g | ⟨g, j, g1, g2⟩
  · exact Or.inr ⟨g, fun hR => by have := (cl' r hR).2; rw [g] at this; exact absurd this (by decide)⟩
  · left
    refine ⟨g, ?_⟩
    obtain ⟨x, x1, x2, x3, x4⟩ := h.1 j g1
    have p := p4096 hn
    have e : r = x := (nI_eq (by omega) (by omega)).mp (g2.symm.trans x2)
    rw [e]; exact x4
theorem FLD_many {E : Nat → Int32} {n : Nat} {lim : Int32} {a m m' : Nat} {s s' : Nat → Int32} (h : FLD E n lim a m s) (h' : FLD E n lim a m' s') : m = m' := by
  rw [← h.2.2, ← h'.2.2]
  refine sm_congr _ (fun k hk => ?_)
  rcases h.2.1 k hk with ⟨a1, a2⟩ | ⟨a1, a2⟩ <;> rcases h'.2.1 k hk with ⟨b1, b2⟩ | ⟨b1, b2⟩
  · show (if s k = 0 then 0 else 1) = (if s' k = 0 then 0 else 1)
    rw [a1, b1]
  · exact absurd a2 b2
  · exact absurd b2 a2
  · show (if s k = 0 then 0 else 1) = (if s' k = 0 then 0 else 1)
    rw [a1, b1]
theorem vnb1 : vp_nar .boolean (1 : Int32) = 1 := by decide
theorem vnb0 : vp_nar .boolean (0 : Int32) = 0 := by decide
theorem x5_reach {x q : Nat} {queue reached : Nat → Int32} (hx : x < 4096) (hq : q < 4096 ∨ reached x ≠ 0) : f_X5_reach (nI x) (nI q) queue reached = if reached x = 0 then some (nI (q + 1), upd queue q (nI x), upd reached x 1) else some (nI q, queue, reached) := by
  have cx : (nI x).toNatClampNeg = x := nI_clamp (by omega)
  rw [f_X5_reach, if_neg (nI_pos (by omega)), if_neg (show ¬ (4096 : Int32) ≤ nI x from nI_ge (b := 4096) hx (by omega)), gd_t _ (nI_in hx (by omega))]
  by_cases e : reached x = 0
  · have q1 : q < 4096 := hq.elim id (fun z => absurd e z)
    rw [if_pos (show reached (nI x).toNatClampNeg = 0 by rw [cx]; exact e), if_pos e, gd_t _ (nI_in hx (by omega)), lt_q, vnb1, x11_set (by omega) q1, bd_s, lt_q, nI_1, cx]
  · rw [if_neg (show ¬ reached (nI x).toNatClampNeg = 0 by rw [cx]; exact e), if_neg e]
def LAe (E : Nat → Int32) (n : Nat) (lim : Int32) (i k many : Nat) (line : Nat → Int32) (la : Int32) : Prop :=
  (la = 1000000 ∨ ∃ y, y < 2 ^ n ∧ la = E y ∧ lim < E y) ∧ ∀ j k', j < many → (j < i ∨ (j = i ∧ k' < k)) → k' < n → ∀ x, x < 2 ^ n → line j = nI x → lim < E (Nat.xor x (2 ^ k')) → la ≤ E (Nat.xor x (2 ^ k'))
theorem LAe_next {E : Nat → Int32} {n : Nat} {lim : Int32} {i many : Nat} {line : Nat → Int32} {la : Int32} (h : LAe E n lim i n many line la) : LAe E n lim (i + 1) 0 many line la :=
  ⟨h.1, fun j k' hj hd hk => h.2 j k' hj (by omega) hk⟩
theorem LAe_add {E : Nat → Int32} {n : Nat} {lim : Int32} {i k many y : Nat} {line : Nat → Int32} {la : Int32} (hi : i < many) (h : LAe E n lim i k many line la) : LAe E n lim i k (many + 1) (upd line many (nI y)) la :=
  ⟨h.1, fun j k' hj hd hk z hz hl' he => by
    rw [pk_un (show j ≠ many by omega)] at hl'
    exact h.2 j k' (by omega) hd hk z hz hl' he⟩
theorem LAe_skip {E : Nat → Int32} {n : Nat} {lim : Int32} {i k many x : Nat} {line : Nat → Int32} {la : Int32} (hn : n ≤ 12) (h : LAe E n lim i k many line la) (hx : x < 2 ^ n) (hl : line i = nI x) (hs : ¬ lim < E (Nat.xor x (2 ^ k))) : LAe E n lim i (k + 1) many line la :=
  ⟨h.1, fun j k' hj hd hk z hz hl' he => by
    have p := p4096 hn
    by_cases q : j = i ∧ k' = k
    · obtain ⟨q1, q2⟩ := q
      subst q1 q2
      have e : z = x := (nI_eq (by omega) (by omega)).mp (hl'.symm.trans hl)
      subst e
      exact absurd he hs
    · exact h.2 j k' hj (by omega) hk z hz hl' he⟩
theorem LAe_min {E : Nat → Int32} {n : Nat} {lim : Int32} {i k many x : Nat} {line : Nat → Int32} {la : Int32} (hn : n ≤ 12) (hkn : k < n) (h : LAe E n lim i k many line la) (hx : x < 2 ^ n) (hl : line i = nI x) (hs : lim < E (Nat.xor x (2 ^ k))) : LAe E n lim i (k + 1) many line (if E (Nat.xor x (2 ^ k)) < la then E (Nat.xor x (2 ^ k)) else la) := by
  have low : (if E (Nat.xor x (2 ^ k)) < la then E (Nat.xor x (2 ^ k)) else la) ≤ la ∧ (if E (Nat.xor x (2 ^ k)) < la then E (Nat.xor x (2 ^ k)) else la) ≤ E (Nat.xor x (2 ^ k)) := by
    by_cases q : E (Nat.xor x (2 ^ k)) < la
    · rw [if_pos q]
      rw [Int32.lt_iff_toInt_lt] at q
      exact ⟨by rw [Int32.le_iff_toInt_le]; omega, Int32.le_refl _⟩
    · rw [if_neg q]
      rw [Int32.lt_iff_toInt_lt] at q
      exact ⟨Int32.le_refl _, by rw [Int32.le_iff_toInt_le]; omega⟩
  refine ⟨?_, fun j k' hj hd hk z hz hl' he => ?_⟩
  · by_cases q : E (Nat.xor x (2 ^ k)) < la
    · rw [if_pos q]
      exact Or.inr ⟨Nat.xor x (2 ^ k), rx_k hx hkn, rfl, hs⟩
    · rw [if_neg q]; exact h.1
  · have p := p4096 hn
    by_cases q : j = i ∧ k' = k
    · obtain ⟨q1, q2⟩ := q
      subst q1 q2
      have e : z = x := (nI_eq (by omega) (by omega)).mp (hl'.symm.trans hl)
      subst e
      exact low.2
    · have := h.2 j k' hj (by omega) hk z hz hl' he
      exact Int32.le_trans low.1 this
abbrev idb : Nat → Nat := fun k => k
theorem rf_k {n k : Nat} (h2 : n ≤ 12) (hk : k < n) : (1 : Int32) <<< (nI k &&& 31) = nI (2 ^ k) := rf_pow (by omega)
theorem x5_flood_60 {E : Nat → Int32} {n a : Nat} {lim : Int32} {w : Nat → Int32} {k42 : Int32 → Int32 → Int32 → Int32 → Int32 → (Nat → Int32) → (Nat → Int32) → (Nat → Int32) → Option (Int32 × Int32 × Int32 × (Nat → Int32) × (Nat → Int32))} {ST : Int32} (h2 : n ≤ 12) (hST : ST = nI n) (hw : ∀ j, j < 2 ^ n → w j = E j) {i : Nat} : ∀ (f k many : Nat) (la : Int32) (line seen : Nat → Int32), k ≤ n → n - k < f → i < many → FI E n lim a many line seen → DNe E n lim idb i k many line seen → LAe E n lim i k many line la →
    ∃ (many' : Nat) (la' : Int32) (line' seen' : Nat → Int32), many ≤ many' ∧ FI E n lim a many' line' seen' ∧ DNe E n lim idb (i + 1) 0 many' line' seen' ∧ LAe E n lim (i + 1) 0 many' line' la' ∧
      f_X5_flood_60 k42 f lim (nI i) (nI k) la (nI many) ST w line seen = k42 lim (nI (i + 1)) la' (nI many') ST w line' seen'
  | 0, _, _, _, _, _, _, h, _, _, _, _ => absurd h (Nat.not_lt_zero _)
  | f + 1, k, many, la, line, seen, hk, hf, hi, hF, hD, hL => by
    subst hST
    have p := p4096 h2
    have m := FI_le hF
    rw [f_X5_flood_60]
    by_cases q : n ≤ k
    · rw [if_pos ((nI_leI (by omega) (by omega)).mpr q), nI_1]
      have e : k = n := by omega
      subst e
      exact ⟨many, la, line, seen, Nat.le_refl _, hF, DNe_next hD, LAe_next hL, rfl⟩
    · have hkn : k < n := by omega
      obtain ⟨x, x1, x2, x3, x4⟩ := hF.1 i hi
      have hy := rx_k x1 hkn
      rw [if_neg (fun z => q ((nI_leI (by omega) (by omega)).mp z)), x11_at (by omega) (by omega), bd_s, lt_q, x2, rf_k h2 hkn, nI_xor, x11_at (by omega) (by omega), bd_s, hw _ hy]
      by_cases z : lim < E (Nat.xor x (2 ^ k))
      · rw [if_pos z, bd_s, lt_q, f_X5_flood_126, nI_1]
        exact x5_flood_60 h2 rfl hw f (k + 1) many _ line seen (by omega) (by omega) hi hF (DNe_step h2 hD x1 x2 (fun (y : E (Nat.xor x (2 ^ k)) ≤ lim) => by rw [Int32.lt_iff_toInt_lt] at z; rw [Int32.le_iff_toInt_le] at y; omega)) (LAe_min h2 hkn hL x1 x2 z)
      · have z' : E (Nat.xor x (2 ^ k)) ≤ lim := by rw [Int32.lt_iff_toInt_lt] at z; rw [Int32.le_iff_toInt_le]; omega
        have hR := Rch_s x1 hkn x4 z'
        rw [if_neg z]
        rcases hF.2.1 _ hy with g | ⟨g, -⟩
        · have hF' := FI_add hF hy g hR
          have m' := FI_le hF'
          rw [x5_reach (by omega) (Or.inl (by omega)), if_pos g, bd_s, f_X5_flood_126, nI_1]
          obtain ⟨m2, l2, n2, s2, c1, c2, c3, c4, c5⟩ := x5_flood_60 (k42 := k42) h2 rfl hw f (k + 1) (many + 1) la _ _ (by omega) (by omega) (by omega) hF' (DNe_step h2 (DNe_add hi hD) x1 (by rw [pk_un (by omega)]; exact x2) (fun _ => pk_us)) (LAe_skip h2 (LAe_add hi hL) x1 (by rw [pk_un (by omega)]; exact x2) z)
          exact ⟨m2, l2, n2, s2, by omega, c2, c3, c4, c5⟩
        · rw [x5_reach (by omega) (Or.inr (by rw [g]; decide)), if_neg (by rw [g]; decide), bd_s, f_X5_flood_126, nI_1]
          exact x5_flood_60 h2 rfl hw f (k + 1) many la line seen (by omega) (by omega) hi hF (DNe_step h2 hD x1 x2 (fun _ => g)) (LAe_skip h2 hL x1 x2 z)
theorem x5_flood_42 {E : Nat → Int32} {n a : Nat} {lim : Int32} {w : Nat → Int32} (h2 : n ≤ 12) (hw : ∀ j, j < 2 ^ n → w j = E j) (ha : a < 2 ^ n) : ∀ (f i many : Nat) (la : Int32) (line seen : Nat → Int32), i ≤ many → 2 ^ n - i < f → FI E n lim a many line seen → DNe E n lim idb i 0 many line seen → LAe E n lim i 0 many line la →
    ∃ (many' : Nat) (la' : Int32) (line' seen' : Nat → Int32), FLD E n lim a many' seen' ∧ ((la' = 1000000 ∨ ∃ y, y < 2 ^ n ∧ la' = E y ∧ lim < E y) ∧ ∀ x k, x < 2 ^ n → k < n → seen' x = 1 → lim < E (Nat.xor x (2 ^ k)) → la' ≤ E (Nat.xor x (2 ^ k))) ∧
      f_X5_flood_42 f lim (nI i) la (nI many) (nI n) w line seen = some (nI many', la', nI many', line', seen')
  | 0, _, _, _, _, _, _, h, _, _, _ => absurd h (Nat.not_lt_zero _)
  | f + 1, i, many, la, line, seen, hi, hf, hF, hD, hL => by
    have p := p4096 h2
    have m := FI_le hF
    rw [f_X5_flood_42]
    by_cases q : many ≤ i
    · rw [if_pos ((nI_leI (by omega) (by omega)).mpr q)]
      refine ⟨many, la, line, seen, FLD_of h2 ha (fun b hb => ⟨b, hb, rfl⟩) hF hD q, ⟨hL.1, fun x k hx hk hs he => ?_⟩, rfl⟩
      rcases hF.2.1 x hx with g | ⟨-, j, g1, g2⟩
      · rw [hs] at g; exact absurd g (by decide)
      · exact hL.2 j k g1 (Or.inl (by omega)) hk x hx g2 he
    · rw [if_neg (fun z => q ((nI_leI (by omega) (by omega)).mp z)), show (4096 : Int32) = nI 4096 from rfl, if_neg (nI_ge (by omega) (by omega))]
      obtain ⟨m1, l1, n1, s1, c1, c2, c3, c4, c5⟩ := x5_flood_60 (k42 := fun x2 x3 x4 x5 x6 x7 x8 x9 => f_X5_flood_42 f x2 x3 x4 x5 x6 x7 x8 x9) (ST := nI n) h2 rfl hw kFU 0 many la line seen (Nat.zero_le _) (by unfold kFU; omega) (by omega) hF hD hL
      obtain ⟨m2, l2, n2, s2, d1, d2, d3⟩ := x5_flood_42 h2 hw ha f (i + 1) m1 l1 n1 s1 (by omega) (by omega) c2 c3 c4
      exact ⟨m2, l2, n2, s2, d1, d2, Eq.trans c5 d3⟩
theorem FI_1 {E : Nat → Int32} {n a : Nat} {lim : Int32} {line seen : Nat → Int32} (ha : a < 2 ^ n) (h0 : ∀ r, r < 2 ^ n → seen r = 0) : FI E n lim a 1 (upd line 0 (nI a)) (upd seen a 1) := by
  refine ⟨fun j hj => ⟨a, ha, by rw [show j = 0 by omega, pk_us], pk_us, Rch_0 _ _ _ _⟩, fun r hr => ?_, ?_, pk_us⟩
  · by_cases e : r = a
    · exact Or.inr ⟨by rw [e, pk_us], 0, by omega, by rw [e, pk_us]⟩
    · rw [pk_un e]; exact Or.inl (h0 r hr)
  · rw [sm_upd (h0 a ha), if_pos ha, sm_congr (g := fun _ => 0) _ (fun k hk => by show (if seen k = 0 then 0 else 1) = 0; rw [if_pos (h0 k hk)]), sm_0]
theorem x5_flood_2 {X2 QD ST : Int32} {a : Nat} {la : Int32} {w queue : Nat → Int32} : ∀ (f k : Nat) (reached : Nat → Int32), k ≤ 4096 → 4096 - k < f → (∀ j, j < k → reached j = 0) →
    ∃ reached', (∀ j, j < 4096 → reached' j = 0) ∧ f_X5_flood_2 f (nI a) X2 (nI k) la QD ST w queue reached = bd (f_X5_reach (nI a) 0 queue reached') fun t2 => f_X5_flood_42 kFU X2 0 1000000 t2.1 ST w t2.2.1 t2.2.2
  | 0, _, _, _, h, _ => absurd h (Nat.not_lt_zero _)
  | f + 1, k, reached, hk, hf, hj => by
    rw [f_X5_flood_2]
    by_cases q : 4096 ≤ k
    · rw [if_pos (show (4096 : Int32) ≤ nI k from (nI_leI (a := 4096) (by omega) (by omega)).mpr q)]
      exact ⟨reached, fun j h => hj j (by omega), rfl⟩
    · rw [if_neg (show ¬ (4096 : Int32) ≤ nI k from fun z => q ((nI_leI (a := 4096) (by omega) (by omega)).mp z)), gd_t _ (nI_in (by omega) (by omega)), lt_q, vnb0, nI_clamp (by omega), nI_1]
      refine x5_flood_2 f (k + 1) _ (by omega) (by omega) (fun j h => ?_)
      by_cases e : j = k
      · rw [e, pk_us]
      · rw [pk_un e]; exact hj j (by omega)
def LAx (E : Nat → Int32) (n : Nat) (lim la : Int32) (seen : Nat → Int32) : Prop := (la = 1000000 ∨ ∃ y, y < 2 ^ n ∧ la = E y ∧ lim < E y) ∧ ∀ x k, x < 2 ^ n → k < n → seen x = 1 → lim < E (Nat.xor x (2 ^ k)) → la ≤ E (Nat.xor x (2 ^ k))
theorem x5_flood {E : Nat → Int32} {n a : Nat} {lim la QD : Int32} {w : Nat → Int32} (h2 : n ≤ 12) (hw : ∀ j, j < 2 ^ n → w j = E j) (ha : a < 2 ^ n) (queue reached : Nat → Int32) :
    ∃ (many : Nat) (la' : Int32) (line' seen' : Nat → Int32), FLD E n lim a many seen' ∧ LAx E n lim la' seen' ∧ f_X5_flood (nI a) lim la QD (nI n) w queue reached = some (nI many, la', nI many, line', seen') := by
  have p := p4096 h2
  obtain ⟨r1, b1, b2⟩ := x5_flood_2 (X2 := lim) (QD := QD) (ST := nI n) (a := a) (la := la) (w := w) (queue := queue) kFU 0 reached (Nat.zero_le _) (by unfold kFU; omega) (fun j hj => absurd hj (Nat.not_lt_zero _))
  obtain ⟨m2, l2, n2, s2, d1, d2, d3⟩ := x5_flood_42 (lim := lim) h2 hw ha kFU 0 1 1000000 _ _ (by omega) (by unfold kFU; omega) (FI_1 (line := queue) (seen := r1) ha (fun r hr => b1 r (by omega))) (fun j k' hj hd hk => by omega) ⟨Or.inl rfl, fun j k' hj hd hk => by omega⟩
  refine ⟨m2, l2, n2, s2, d1, d2, ?_⟩
  rw [f_X5_flood, show (0 : Int32) = nI 0 from rfl, b2, show (0 : Int32) = nI 0 from rfl, x5_reach (by omega) (Or.inl (by omega)), if_pos (b1 a (by omega)), bd_s]
  exact d3
/-! the reference's -/
