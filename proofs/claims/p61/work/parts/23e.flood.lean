/-! RELAXING, PASSES, VALLEYS (the class alone) -/
theorem v_settle_13 {n : Nat} {a b c : Int32} (h1 : 1 ≤ n) (h2 : n ≤ 12) : ∀ (f k r S : Nat), r < 2 ^ n → k ≤ 4096 → 4096 - k < f → ∃ r' S' : Nat, f_X5_settle_13 f (nI n) (nI k) a b c (nI r) (nI S) = some (nI r', nI S') ∧ r' < 2 ^ n ∧ S ≤ S' ∧ S' ≤ S + (4096 - k) ∧ eE n r' a b c ≤ eE n r a b c ∧ (S' = S → r' = r) ∧ (S < S' → eE n r' a b c < eE n r a b c)
  | 0, _, _, _, _, _, hf => absurd hf (Nat.not_lt_zero _)
  | f + 1, k, r, S, hr, hk, hf => by
    rw [f_X5_settle_13]
    by_cases q : k = 4096
    · subst q
      rw [if_pos (show (4096 : Int32) ≤ nI 4096 from Int32.le_refl _)]
      exact ⟨r, S, rfl, hr, Nat.le_refl _, Nat.le_add_right _ _, Int32.le_refl _, fun _ => rfl, fun z => absurd z (Nat.lt_irrefl _)⟩
    · have w := rWk_le n r a b c (n - 1)
      have wl : rWk n r a b c (n - 1) < n := by omega
      rw [if_neg (show ¬ (4096 : Int32) ≤ nI k from nI_ge (b := 4096) (by omega) (by decide)), x4_weakest h1 h2 hr, bd_s, x8_bit h2 wl, bd_s, lt_q, nI_xor]
      have fl : Nat.xor r (2 ^ (n - 1 - rWk n r a b c (n - 1))) = rF n r (rWk n r a b c (n - 1)) := rfl
      rw [fl, x4_energyOf h1 h2 (rF_lt h1 hr), bd_s, x4_energyOf h1 h2 hr, bd_s]
      by_cases g : eE n (rF n r (rWk n r a b c (n - 1))) a b c < eE n r a b c
      · rw [if_pos g, lt_q, nI_1, nI_1]
        obtain ⟨r', S', k1, k2, k3, k4, k5, k6, k7⟩ := v_settle_13 (a := a) (b := b) (c := c) h1 h2 f (k + 1) (rF n r (rWk n r a b c (n - 1))) (S + 1) (rF_lt h1 hr) (by omega) (by omega)
        have lt : eE n r' a b c < eE n r a b c := Int32.lt_of_le_of_lt k5 g
        exact ⟨r', S', k1, k2, by omega, by omega, Int32.le_of_lt lt, fun z => by omega, fun _ => lt⟩
      · rw [if_neg g]
        exact ⟨r, S, rfl, hr, Nat.le_refl _, Nat.le_add_right _ _, Int32.le_refl _, fun _ => rfl, fun z => absurd z (Nat.lt_irrefl _)⟩
theorem v_settle {n r : Nat} {a b c : Int32} (h1 : 1 ≤ n) (h2 : n ≤ 12) (hr : r < 2 ^ n) : ∃ r' S' : Nat, (∀ x y : Int32, f_X5_settle (nI r) (nI n) a b c x y = some (nI r', nI S')) ∧ r' < 2 ^ n ∧ S' ≤ 4096 ∧ eE n r' a b c ≤ eE n r a b c ∧ (S' = 0 ↔ eE n r a b c ≤ eE n (rF n r (rWk n r a b c (n - 1))) a b c) ∧ (r' = r ↔ S' = 0) := by
  obtain ⟨r', S', k1, k2, k3, k4, k5, k6, k7⟩ := v_settle_13 (a := a) (b := b) (c := c) h1 h2 kFU 0 r 0 hr (by decide) (by unfold kFU; omega)
  refine ⟨r', S', fun x y => k1, k2, by omega, k5, ?_, ⟨fun e => ?_, fun e => k6 e⟩⟩
  · have w := rWk_le n r a b c (n - 1)
    have wl : rWk n r a b c (n - 1) < n := by omega
    have fl : Nat.xor r (2 ^ (n - 1 - rWk n r a b c (n - 1))) = rF n r (rWk n r a b c (n - 1)) := rfl
    rw [show kFU = 99999 + 1 from rfl, f_X5_settle_13, if_neg (show ¬ (4096 : Int32) ≤ nI 0 by decide), x4_weakest h1 h2 hr, bd_s, x8_bit h2 wl, bd_s, lt_q, nI_xor, fl, x4_energyOf h1 h2 (rF_lt h1 hr), bd_s, x4_energyOf h1 h2 hr, bd_s] at k1
    by_cases g : eE n (rF n r (rWk n r a b c (n - 1))) a b c < eE n r a b c
    · rw [if_pos g, lt_q, nI_1] at k1
      simp only [Nat.zero_add] at k1
      obtain ⟨r2, S2, m1, m2, m3, m4, m5, m6, m7⟩ := v_settle_13 (a := a) (b := b) (c := c) h1 h2 99999 1 (rF n r (rWk n r a b c (n - 1))) 1 (rF_lt h1 hr) (by decide) (by decide)
      rw [m1] at k1
      have e2 : nI S2 = nI S' := congrArg Prod.snd (Option.some.inj k1)
      have e3 : S2 = S' := (nI_eq (by omega) (by omega)).mp e2
      refine ⟨fun z => by omega, fun z => absurd (Int32.lt_of_le_of_lt z g) Int32.lt_irrefl⟩
    · rw [if_neg g] at k1
      have e2 : nI 0 = nI S' := congrArg Prod.snd (Option.some.inj k1)
      have e3 : 0 = S' := (nI_eq (by omega) (by omega)).mp e2
      exact ⟨fun _ => Int32.not_lt.mp g, fun _ => e3.symm⟩
  · rcases Nat.eq_zero_or_pos S' with z | z
    · exact z
    · have := k7 z
      rw [e] at this
      exact absurd this Int32.lt_irrefl
section VFL
variable {c s u : Nat} {N R : Nat → Nat} {L W : Nat → Int32} {a1 a2 a3 : Int32}
theorem v_relax (h : SVx c N R L W) (hs : s < c) {r' S' : Nat} (e : ∀ x y : Int32, f_X5_settle (nI (R s)) (nI (N s)) a1 a2 a3 x y = some (nI r', nI S')) (t x y : Int32) : f_X11_relax (nI s) t x y (nI c) a1 a2 a3 L W = some (nI S', 0, nI r', nI S') := by
  simp only [f_X11_relax, sv_l h hs, sv_r h hs, sv_n h hs, bd_s, if_true, e, f_X11_granted]
theorem v_relaxed (h : SVx c N R L W) (hs : s < c) {r' S' : Nat} (e : ∀ x y : Int32, f_X5_settle (nI (R s)) (nI (N s)) a1 a2 a3 x y = some (nI r', nI S')) (t x y : Int32) : f_X11_relaxed (nI s) t x y (nI c) a1 a2 a3 L W = some (nI r', 0, nI r', nI S') := by
  simp only [f_X11_relaxed, sv_l h hs, sv_r h hs, sv_n h hs, bd_s, if_true, e, f_X11_granted]
theorem Rch_tr {E : Nat → Int32} {n a b d : Nat} {v : Int32} (h : Rch E n v a b) (g : Rch E n v b d) : Rch E n v a d := fun S h0 hc => g S (h S h0 hc) hc
theorem xor_2 (x y : Nat) : Nat.xor (Nat.xor x y) y = x := by
  show (x ^^^ y) ^^^ y = x
  rw [Nat.xor_assoc, Nat.xor_self, Nat.xor_zero]
theorem Rch_sym {E : Nat → Int32} {n a b : Nat} {v : Int32} (ha : a < 2 ^ n) (he : E a ≤ v) (h : Rch E n v a b) : Rch E n v b a := by
  refine (h (fun x => x < 2 ^ n ∧ E x ≤ v ∧ Rch E n v x a) ⟨ha, he, Rch_0 E n v a⟩ (fun x k hx hk hS he' => ?_)).2.2
  have hy := rx_k hx hk
  refine ⟨hy, he', ?_⟩
  have st : Rch E n v (Nat.xor x (2 ^ k)) (Nat.xor (Nat.xor x (2 ^ k)) (2 ^ k)) := Rch_s hy hk (Rch_0 E n v _) (by rw [xor_2]; exact hS.2.1)
  rw [xor_2] at st
  exact Rch_tr st hS.2.2
abbrev mxE (E : Nat → Int32) (a b : Nat) : Int32 := if E a < E b then E b else E a
theorem mxE_le (E : Nat → Int32) (a b : Nat) : E a ≤ mxE E a b ∧ E b ≤ mxE E a b ∧ (mxE E a b = E a ∨ mxE E a b = E b) := by
  unfold mxE
  by_cases g : E a < E b
  · rw [if_pos g]; exact ⟨Int32.le_of_lt g, Int32.le_refl _, Or.inr rfl⟩
  · rw [if_neg g]; exact ⟨Int32.le_refl _, Int32.not_lt.mp g, Or.inl rfl⟩
theorem mxE_sym (E : Nat → Int32) (a b : Nat) : mxE E a b = mxE E b a := by
  have h := mxE_le E a b
  have g := mxE_le E b a
  refine Int32.le_antisymm ?_ ?_
  · rcases h.2.2 with e | e <;> rw [e]
    · exact g.2.1
    · exact g.1
  · rcases g.2.2 with e | e <;> rw [e]
    · exact h.2.1
    · exact h.1
/-- the least of the greatest energies on the way -/
def PSP (E : Nat → Int32) (n a b : Nat) (v : Int32) : Prop := Rch E n v a b ∧ mxE E a b ≤ v ∧ LOWp E n a b (mxE E a b) v
theorem PSP_eq {E : Nat → Int32} {n a b : Nat} {v v' : Int32} (h : PSP E n a b v) (g : PSP E n a b v') : v = v' := LOWp_eq h.1 g.1 h.2.1 g.2.1 h.2.2 g.2.2
theorem PSP_sym {E : Nat → Int32} {n a b : Nat} {v : Int32} (ha : a < 2 ^ n) (hb : b < 2 ^ n) (h : PSP E n a b v) : PSP E n b a v := by
  have m := mxE_le E a b
  refine ⟨Rch_sym ha (Int32.le_trans m.1 h.2.1) h.1, by rw [mxE_sym]; exact h.2.1, fun x hx hv hR => ?_⟩
  rw [mxE_sym] at hx
  exact h.2.2 x hx hv (Rch_sym hb (Int32.le_trans m.2.1 hx) hR)
theorem PSP_self (E : Nat → Int32) (n a : Nat) : PSP E n a a (E a) := by
  have m : mxE E a a = E a := by unfold mxE; rw [if_neg Int32.lt_irrefl]
  refine ⟨Rch_0 E n _ a, by rw [m]; exact Int32.le_refl _, fun x hx hv => ?_⟩
  rw [m] at hx
  exact absurd (Int32.lt_of_le_of_lt hx hv) Int32.lt_irrefl
theorem v_pass (h : SVx c N R L W) (hs : s < c) (hu : u < c) (e : N u = N s) (i1 : ib a1 99) (i2 : ib a2 99) (i3 : ib a3 99) (t u1 u2 u3 u4 : Int32) (w1 w2 w3 : Nat → Int32) : ∃ (v : Int32) (o : Int32 × Int32 × Int32 × Int32 × (Nat → Int32) × (Nat → Int32) × (Nat → Int32)), f_X11_pass (nI s) (nI u) t u1 u2 u3 u4 (nI c) a1 a2 a3 w1 w2 w3 L W = some (v, 0, o) ∧ PSP (fun j => eE (N s) j a1 a2 a3) (N s) (R s) (R u) v := by
  have g1 := sv_1 h hs
  have g2 := sv_2 h hs
  have hr := sv_R h hs
  have hr' : R u < 2 ^ N s := e ▸ sv_R h hu
  have l := p4096 g2
  obtain ⟨w1', m1, m2⟩ := x5_survey (a := a1) (b := a2) (c := a3) (rw' := u3) (st := u4) g1 g2 w1
  have mm := mxE_le (fun j => eE (N s) j a1 a2 a3) (R s) (R u)
  have hE : ∀ j, j < 2 ^ N s → ib (eE (N s) j a1 a2 a3) 3564 := fun j _ => (eE_ib g2 i1 i2 i3).1
  have yL : ∃ y, y < 2 ^ N s ∧ mxE (fun j => eE (N s) j a1 a2 a3) (R s) (R u) = eE (N s) y a1 a2 a3 := by
    rcases mm.2.2 with z | z
    · exact ⟨R s, hr, z⟩
    · exact ⟨R u, hr', z⟩
  have bL : ib (mxE (fun j => eE (N s) j a1 a2 a3) (R s) (R u)) 3564 := by
    obtain ⟨y, y1, y2⟩ := yL
    rw [y2]; exact hE y y1
  unfold ib at bL
  obtain ⟨v, la', q', w2', w3', r1, r2, r3, r4⟩ := x5_pass_23 (E := fun j => eE (N s) j a1 a2 a3) (L0 := mxE (fun j => eE (N s) j a1 a2 a3) (R s) (R u)) g1 g2 m2 hr hr' hE (fun i j _ _ => eE_par g2 i1 i2 i3) kFU 0 (mxE (fun j => eE (N s) j a1 a2 a3) (R s) (R u)) u1 u2 w2 w3 (by unfold kFU; omega) (Int32.le_refl _) (fun x hx hx2 => absurd (Int32.lt_of_le_of_lt hx hx2) Int32.lt_irrefl) yL (by omega)
  have mx : (if eE (N s) (R s) a1 a2 a3 < eE (N s) (R u) a1 a2 a3 then eE (N s) (R u) a1 a2 a3 else eE (N s) (R s) a1 a2 a3) = mxE (fun j => eE (N s) j a1 a2 a3) (R s) (R u) := rfl
  refine ⟨v, (la', q', nI (2 ^ N s), nI (N s), w1', w2', w3'), ?_, r1, r2, r3⟩
  rw [nI_0] at r4
  simp only [f_X11_pass, sv_l h hs, sv_l h hu, sv_r h hs, sv_r h hu, sv_n h hs, sv_n h hu, e, m1, bd_s, if_true, f_X5_lowestPass, x11_at (show 4096 < 2 ^ 31 by omega) (show R s < 4096 by omega), x11_at (show 4096 < 2 ^ 31 by omega) (show R u < 4096 by omega), m2 _ hr, m2 _ hr', mx, lt_q, r4, f_X11_granted]
theorem sm_ge {f : Nat → Nat} {a : Nat} : ∀ K, a < K → f a ≤ sm f K
  | 0, h => absurd h (Nat.not_lt_zero _)
  | K + 1, h => by
    rw [sm]
    by_cases g : a = K
    · rw [g]; omega
    · have := sm_ge (f := f) K (show a < K by omega)
      omega
theorem v_valley (h : SVx c N R L W) (hs : s < c) (t u1 u2 u3 u4 : Int32) (w1 w2 w3 : Nat → Int32) : ∃ (m : Nat) (o : Int32 × Int32 × Int32 × Int32 × (Nat → Int32) × (Nat → Int32) × (Nat → Int32)), f_X11_valley (nI s) t u1 u2 u3 u4 (nI c) a1 a2 a3 w1 w2 w3 L W = some (nI m, 0, o) ∧ 1 ≤ m ∧ m ≤ 4096 := by
  have g1 := sv_1 h hs
  have g2 := sv_2 h hs
  have hr := sv_R h hs
  have l := p4096 g2
  obtain ⟨w1', m1, m2⟩ := x5_survey (a := a1) (b := a2) (c := a3) (rw' := u3) (st := u4) g1 g2 w1
  obtain ⟨many, la', line', seen', k1, k2, k3⟩ := x5_flood (E := fun j => eE (N s) j a1 a2 a3) (lim := eE (N s) (R s) a1 a2 a3) (la := u1) (QD := u2) g2 m2 hr w2 w3
  refine ⟨many, (la', nI many, nI (2 ^ N s), nI (N s), w1', line', seen'), by simp only [f_X11_valley, sv_l h hs, sv_r h hs, sv_n h hs, m1, bd_s, if_true, x4_energyOf g1 g2 hr, k3, f_X11_granted], ?_, Nat.le_trans k1.1 l⟩
  have ge := sm_ge (f := fun r => if seen' r = 0 then 0 else 1) (a := R s) (2 ^ N s) hr
  rw [k1.2.2] at ge
  rcases k1.2.1 (R s) hr with z | z
  · simp only [z.1, show ¬ (1 : Int32) = 0 by decide, if_false] at ge
    exact ge
  · exact absurd (Rch_0 _ _ _ _) z.2
end VFL
