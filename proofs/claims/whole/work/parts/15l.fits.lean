/-! UNSURE STEPS: THE SETS BY WHICH ALL IS AS AGREED -/
def LB (c ua ga : Nat) (SL SR bS bR uS uP mU mP aS aD aL mA mB mM : Nat → Int32) : Prop :=
  c ≤ 5 ∧ ua ≤ 4 ∧ ga ≤ 6 ∧ (∀ s, s < c → ∃ n r : Nat, 2 ≤ n ∧ n ≤ 12 ∧ r < 2 ^ n ∧ SL s = nI n ∧ SR s = nI r ∧ bS s = nI n ∧ bR s = nI r) ∧
  (∀ i, i < ua → ∃ s n k : Nat, s < c ∧ SL s = nI n ∧ n ≤ 12 ∧ k < n ∧ uS i = nI s ∧ uP i = nI k ∧ mU i = nI s ∧ mP i = nI k) ∧
  (∀ i, i < ga → ∃ s m l : Nat, s < c ∧ m ≤ 36 ∧ l ≤ 36 ∧ aS i = nI s ∧ aD i = nI m ∧ aL i = nI l ∧ mA i = nI s ∧ mB i = nI m ∧ mM i = nI l)
theorem rv_sh31 {k : Nat} (hk : k < 31) : ((nI k &&& 31).toBitVec.smod 32).toNat = k :=
  of_decide_eq_true (allB_at (N := 31) (p := fun k => decide (((nI k &&& 31).toBitVec.smod 32).toNat = k)) (by decide +kernel) k hk)
theorem rb_bit {x k : Nat} (hx : x < 2 ^ 31) (hk : k < 31) : (nI x >>> (nI k &&& 31)) &&& (1 : Int32) = nI (x / 2 ^ k % 2) := by
  rw [pk_shrN hx _ _ (rv_sh31 hk), pk_andN (Nat.lt_of_le_of_lt (Nat.div_le_self _ _) (by omega)) 1 rfl]
theorem x1_has {x k : Nat} (hx : x < 2 ^ 31) (hk : k < 31) : f_X1_has (nI x) (nI k) = some (nI (x / 2 ^ k % 2)) := by
  have l : x / 2 ^ k % 2 < 2 := Nat.mod_lt _ (by decide)
  rw [f_X1_has, rb_bit hx hk]
  generalize x / 2 ^ k % 2 = b at *
  rcases (by omega : b = 0 ∨ b = 1) with rfl | rfl <;> rfl
theorem x13_bit {x k : Nat} (hx : x < 2 ^ 31) (hk : k < 31) : f_X13_bit (nI x) (nI k) = some (nI (x / 2 ^ k % 2)) := by
  have l : x / 2 ^ k % 2 < 2 := Nat.mod_lt _ (by decide)
  rw [f_X13_bit, rb_bit hx hk]
  generalize x / 2 ^ k % 2 = b at *
  rcases (by omega : b = 0 ∨ b = 1) with rfl | rfl <;> rfl
theorem q_rw {c ua ga : Nat} {SL SR bS bR uS uP mU mP aS aD aL mA mB mM : Nat → Int32} (h : LB c ua ga SL SR bS bR uS uP mU mP aS aD aL mA mB mM) {s n set : Nat} (hs : s < c) (hset : set < 2 ^ 31) (hn : SL s = nI n) (hb : bS s = nI n) (h1 : 2 ≤ n) (h2 : n ≤ 12) : ∀ (f g i r : Nat), i ≤ ua → ua - i < f → ua - i < g → r < 2 ^ n →
    ∃ r', r' < 2 ^ n ∧ f_X1_rowWith_22 f (nI s) (nI set) (nI r) (nI n) (nI i) (nI ua) SL SR uP uS = some (nI r') ∧ f_X13_rowBy_13 g (nI s) (nI set) (nI r) (nI i) (nI ua) mP bR bS mU = some (nI r')
  | 0, _, _, _, _, hf, _, _ => absurd hf (Nat.not_lt_zero _)
  | _ + 1, 0, _, _, _, _, hg, _ => absurd hg (Nat.not_lt_zero _)
  | f + 1, g + 1, i, r, hi, hf, hg, hr => by
    have h' := h
    obtain ⟨hc, hu, -, -, hU, -⟩ := h'
    rw [f_X1_rowWith_22, f_X13_rowBy_13]
    by_cases q : ua ≤ i
    · have z := (nI_leI (a := ua) (b := i) (by omega) (by omega)).mpr q
      rw [if_pos z, if_pos z]
      exact ⟨r, hr, rfl, rfl⟩
    · have z : ¬ nI ua ≤ nI i := fun z => q ((nI_leI (by omega) (by omega)).mp z)
      have next : ∀ r2, r2 < 2 ^ n → ∃ r', r' < 2 ^ n ∧ f_X1_rowWith_22 f (nI s) (nI set) (nI r2) (nI n) (nI (i + 1)) (nI ua) SL SR uP uS = some (nI r') ∧ f_X13_rowBy_13 g (nI s) (nI set) (nI r2) (nI (i + 1)) (nI ua) mP bR bS mU = some (nI r') := fun r2 hr2 =>
        q_rw h hs hset hn hb h1 h2 f g (i + 1) r2 (by omega) (by omega) (by omega) hr2
      obtain ⟨s', n', k, a1, a2, a3, a4, a5, a6, a7, a8⟩ := hU i (by omega)
      rw [if_neg z, if_neg z, x1_has hset (by omega), x13_bit hset (by omega), bd_s, bd_s]
      have lb : set / 2 ^ i % 2 < 2 := Nat.mod_lt _ (by decide)
      rcases (by omega : set / 2 ^ i % 2 = 0 ∨ set / 2 ^ i % 2 = 1) with y | y
      · rw [y, if_pos nI_0, if_pos nI_0, f_X1_rowWith_70, f_X13_rowBy_72, nI_1]
        exact next r hr
      · have ci : (nI i).toNatClampNeg = i := nI_clamp (by omega)
        have a7' : mU (nI i).toNatClampNeg = nI s' := by rw [ci]; exact a7
        have a8' : mP (nI i).toNatClampNeg = nI k := by rw [ci]; exact a8
        have hb' : bS (nI s).toNatClampNeg = nI n := by rw [nI_clamp (by omega)]; exact hb
        rw [y, if_neg (by decide), if_neg (by decide), x11_at (by omega) (by omega), bd_s, gd_t _ (nI_in (by omega) (by omega)), a5, a7']
        by_cases e : s' = s
        · subst e
          have en : n' = n := (nI_eq (by omega) (by omega)).mp (a2.symm.trans hn)
          subst en
          rw [if_pos rfl, if_pos rfl, x11_at (by omega) (by omega), bd_s, a6, x8_bit h2 a4, bd_s, lt_q, nI_xor, gd_t _ (nI_in (by omega) (by omega)), gd_t _ (nI_in (by omega) (by omega)), hb', a8', x13_slipped h2 a4, bd_s, f_X1_rowWith_70, f_X13_rowBy_72, nI_1]
          exact next _ (rF_lt (by omega) hr)
        · have e' : ¬ nI s' = nI s := fun y => e ((nI_eq (by omega) (by omega)).mp y)
          rw [if_neg e', if_neg e', f_X1_rowWith_70, f_X13_rowBy_72, nI_1]
          exact next r hr
theorem q_so {c ua ga : Nat} {SL SR bS bR uS uP mU mP aS aD aL mA mB mM : Nat → Int32} (h : LB c ua ga SL SR bS bR uS uP mU mP aS aD aL mA mB mM) {set i : Nat} (hset : set < 2 ^ 31) (hi : i < ga) : ∃ s n r m l : Nat, s < 5 ∧ n ≤ 12 ∧ l ≤ 36 ∧ f_X1_isSo (nI i) (nI set) (nI ua) aD aL aS SL SR uP uS = (if nI (rAg n r m (rRep n r)) = nI l then some 1 else some 0) ∧
    mA i = nI s ∧ f_X13_rowBy (nI s) (nI set) (nI ua) mP bR bS mU = some (nI r) ∧ bS s = nI n ∧ mB i = nI m ∧ mM i = nI l ∧ ∀ u, ∃ u', f_X13_agreeOf (nI r) (nI n) (nI m) u = some (nI (rAg n r m (rRep n r)), u') := by
  have h' := h
  obtain ⟨hc, hu, hg, hS, hU, hA⟩ := h'
  obtain ⟨s, m, l, a1, a2, a3, a4, a5, a6, a7, a8, a9⟩ := hA i hi
  obtain ⟨n, r0, b1, b2, b3, b4, b5, b6, b7⟩ := hS s a1
  obtain ⟨r, r1, r2, r3⟩ := q_rw h a1 hset b4 b6 b1 b2 kFU kFU 0 r0 (Nat.zero_le _) (by unfold kFU; omega) (by unfold kFU; omega) b3
  have s5 : s < 5 := by omega
  refine ⟨s, n, r, m, l, s5, b2, a3, ?_, a7, ?_, b6, a8, a9, fun u => x13_agreeOf (by omega) b2 r1 a2 u⟩
  · rw [f_X1_isSo, x11_at (by omega) (by omega), bd_s, a4, x9_steps s5, b4, bd_s, f_X1_rowWith, x9_row s5, b5, bd_s, x9_steps s5, b4, bd_s]
    have r2' := r2
    rw [show nI 0 = (0 : Int32) from nI_0] at r2'
    rw [r2', bd_s, x11_at (by omega) (by omega), bd_s, a5, x8_layersAlike (by omega) b2 r1 a2, bd_s, x11_at (by omega) (by omega), bd_s, a6]
  · rw [f_X13_rowBy, gd_t _ (nI_in s5 (by omega)), lt_q, nI_clamp (by omega), b7]
    exact r3
theorem q_all {c ua ga : Nat} {SL SR bS bR uS uP mU mP aS aD aL mA mB mM : Nat → Int32} (h : LB c ua ga SL SR bS bR uS uP mU mP aS aD aL mA mB mM) {set : Nat} (hset : set < 2 ^ 31) : ∀ (f g i : Nat) (u : Nat → Int32), i ≤ ga → ga - i < f → ga - i < g →
    ∃ (b : Nat) (x : Int32) (u' : Nat → Int32), f_X1_areAllSo_2 f (nI set) (nI i) (nI ga) (nI ua) aD aL aS SL SR uP uS = some (nI b) ∧ f_X13_wrongAgreed_2 g (nI set) (nI i) (nI ga) (nI ua) mA mB mM mP bR bS mU u = some (x, u') ∧ ((b = 1 ∧ x = -2) ∨ (b = 0 ∧ x ≠ -2))
  | 0, _, _, _, _, hf, _ => absurd hf (Nat.not_lt_zero _)
  | _ + 1, 0, _, _, _, _, hg => absurd hg (Nat.not_lt_zero _)
  | f + 1, g + 1, i, u, hi, hf, hg => by
    have hga := h.2.2.1
    rw [f_X1_areAllSo_2, f_X13_wrongAgreed_2]
    by_cases q : ga ≤ i
    · have z := (nI_leI (a := ga) (b := i) (by omega) (by omega)).mpr q
      rw [if_pos z, if_pos z]
      exact ⟨1, -2, u, rfl, rfl, Or.inl ⟨rfl, rfl⟩⟩
    · have z : ¬ nI ga ≤ nI i := fun z => q ((nI_leI (by omega) (by omega)).mp z)
      obtain ⟨s, n, r, m, l, b1, b2, b3, b4, b5, b6, b7, b8, b9, b10⟩ := q_so h hset (show i < ga by omega)
      obtain ⟨u', k⟩ := b10 u
      have ci : (nI i).toNatClampNeg = i := nI_clamp (by omega)
      have b5' : mA (nI i).toNatClampNeg = nI s := by rw [ci]; exact b5
      have b7' : bS (nI s).toNatClampNeg = nI n := by rw [nI_clamp (by omega)]; exact b7
      have b8' : mB (nI i).toNatClampNeg = nI m := by rw [ci]; exact b8
      have b9' : mM (nI i).toNatClampNeg = nI l := by rw [ci]; exact b9
      rw [if_neg z, if_neg z, b4, gd_t _ (nI_in (by omega) (by omega)), b5', b6, bd_s, gd_t _ (nI_in (by omega) (by omega)), gd_t _ (nI_in b1 (by omega)), gd_t _ (nI_in (by omega) (by omega)), b7', b8', k, bd_s, gd_t _ (nI_in (by omega) (by omega)), b9']
      by_cases e : nI (rAg n r m (rRep n r)) = nI l
      · rw [if_pos e, if_pos e, bd_s, if_neg (by decide), nI_1]
        exact q_all h hset f g (i + 1) u' (by omega) (by omega) (by omega)
      · rw [if_neg e, if_neg e, bd_s, if_pos rfl]
        refine ⟨0, nI i, u', rfl, rfl, Or.inr ⟨rfl, fun y => ?_⟩⟩
        have := nI_pos (n := i) (by omega)
        rw [y] at this
        exact this (by decide)
theorem q_jud {c ua ga : Nat} {SL SR bS bR uS uP mU mP aS aD aL mA mB mM : Nat → Int32} (h : LB c ua ga SL SR bS bR uS uP mU mP aS aD aL mA mB mM) (t : Int32) : ∀ (f g i : Nat) (u : Nat → Int32), i ≤ ga → ga - i < f → ga - i < g →
    ∃ (x : Int32) (u' : Nat → Int32), f_X11_judge_19 f (nI i) t (nI ga) 1 (nI ua) aD aL aS SL SR uP uS = some (x, 0) ∧ f_X13_wrongAgreed_2 g 0 (nI i) (nI ga) (nI ua) mA mB mM mP bR bS mU u = some (x, u')
  | 0, _, _, _, _, hf, _ => absurd hf (Nat.not_lt_zero _)
  | _ + 1, 0, _, _, _, _, hg => absurd hg (Nat.not_lt_zero _)
  | f + 1, g + 1, i, u, hi, hf, hg => by
    have hga := h.2.2.1
    rw [f_X11_judge_19, f_X13_wrongAgreed_2]
    by_cases q : ga ≤ i
    · have z := (nI_leI (a := ga) (b := i) (by omega) (by omega)).mpr q
      rw [if_pos z, if_pos z]
      exact ⟨-2, u, rfl, rfl⟩
    · have z : ¬ nI ga ≤ nI i := fun z => q ((nI_leI (by omega) (by omega)).mp z)
      obtain ⟨s, n, r, m, l, b1, b2, b3, b4, b5, b6, b7, b8, b9, b10⟩ := q_so (set := 0) h (by omega) (show i < ga by omega)
      obtain ⟨u', k⟩ := b10 u
      rw [nI_0] at b4 b6
      have ci : (nI i).toNatClampNeg = i := nI_clamp (by omega)
      have b5' : mA (nI i).toNatClampNeg = nI s := by rw [ci]; exact b5
      have b7' : bS (nI s).toNatClampNeg = nI n := by rw [nI_clamp (by omega)]; exact b7
      have b8' : mB (nI i).toNatClampNeg = nI m := by rw [ci]; exact b8
      have b9' : mM (nI i).toNatClampNeg = nI l := by rw [ci]; exact b9
      rw [if_neg z, if_neg z, b4, gd_t _ (nI_in (by omega) (by omega)), b5', b6, bd_s, gd_t _ (nI_in (by omega) (by omega)), gd_t _ (nI_in b1 (by omega)), gd_t _ (nI_in (by omega) (by omega)), b7', b8', k, bd_s, gd_t _ (nI_in (by omega) (by omega)), b9']
      by_cases e : nI (rAg n r m (rRep n r)) = nI l
      · rw [if_pos e, if_pos e, bd_s, if_neg (by decide), nI_1]
        exact q_jud h t f g (i + 1) u' (by omega) (by omega) (by omega)
      · rw [if_neg e, if_neg e, bd_s, if_pos rfl]
        exact ⟨nI i, u', rfl, rfl⟩
theorem q_judge {c ua ga : Nat} {SL SR bS bR uS uP mU mP aS aD aL mA mB mM : Nat → Int32} (h : LB c ua ga SL SR bS bR uS uP mU mP aS aD aL mA mB mM) (t a b d : Int32) (u : Nat → Int32) : ∃ (x y : Int32) (u' : Nat → Int32), y ≠ 4 ∧ f_X11_judge t (nI ga) 1 (nI ua) aD aL aS SL SR uP uS = some (x, y) ∧ f_X13_judge a b d (nI ga) (nI ua) mA mB mM mP bR bS mU u = some (x, 0, y, -1, u') := by
  have hga := h.2.2.1
  obtain ⟨x, u', r1, r2⟩ := q_jud h t kFU kFU 0 u (Nat.zero_le _) (by unfold kFU; omega) (by unfold kFU; omega)
  rw [nI_0] at r1 r2
  refine ⟨x, 0, u', by decide, ?_, ?_⟩
  · rw [f_X11_judge, if_neg (by decide)]; exact r1
  · rw [f_X13_judge, f_X13_wrongAgreed, r2, bd_s, f_X13_good, bd_s]
