/-! UNSURE STEPS (the class alone); two at most, so that the sets are four: all is looked through -/
def TL (c ua ga : Nat) (N R : Nat → Nat) (SL SR uS uP aT aD aL : Nat → Int32) : Prop :=
  SVx c N R SL SR ∧ ua ≤ 2 ∧ ga ≤ 2 ∧ (∀ i, i < ua → ∃ s k : Nat, s < c ∧ k < N s ∧ uS i = nI s ∧ uP i = nI k) ∧ (∀ i, i < ga → ∃ s m l : Nat, s < c ∧ m ≤ 36 ∧ l ≤ 36 ∧ aT i = nI s ∧ aD i = nI m ∧ aL i = nI l)
section VFIT
variable {c ua ga : Nat} {N R : Nat → Nat} {SL SR uS uP aT aD aL : Nat → Int32}
theorem x1_row_22 (h : TL c ua ga N R SL SR uS uP aT aD aL) {s set : Nat} (hs : s < c) (hset : set < 16) : ∀ (f k r : Nat), k ≤ ua → ua - k < f → r < 2 ^ N s → ∃ r', r' < 2 ^ N s ∧ f_X1_rowWith_22 f (nI s) (nI set) (nI r) (nI (N s)) (nI k) (nI ua) SL SR uP uS = some (nI r')
  | 0, _, _, _, hf, _ => absurd hf (Nat.not_lt_zero _)
  | f + 1, k, r, hk, hf, hr => by
    have hu := h.2.1
    have c5 := h.1.1
    rw [f_X1_rowWith_22]
    by_cases q : k = ua
    · subst q
      rw [if_pos (Int32.le_refl _)]
      exact ⟨r, hr, rfl⟩
    · rw [if_neg (nI_ge (by omega) (by omega)), x1_has (by omega) (by omega), bd_s]
      have go := fun r' hr' => x1_row_22 h hs hset f (k + 1) r' (by omega) (by omega) hr'
      by_cases z : set / 2 ^ k % 2 = 0
      · rw [z, if_pos nI_0, f_X1_rowWith_70, nI_1]
        exact go r hr
      · have m := Nat.mod_lt (set / 2 ^ k) (show 0 < 2 by decide)
        obtain ⟨s', k', h1, h2, h3, h4⟩ := h.2.2.2.1 k (by omega)
        rw [show set / 2 ^ k % 2 = 1 by omega, if_neg (show ¬ nI 1 = 0 by decide), x11_at (by decide) (by omega), bd_s, h3]
        by_cases e : s' = s
        · subst e
          have h12 := sv_2 h.1 hs
          have g3 : nI r ^^^ nI (2 ^ (N s' - 1 - k')) = nI (rF (N s') r k') := nI_xor _ _
          rw [if_pos rfl, x11_at (by decide) (by omega), bd_s, h4, x8_bit h12 h2, bd_s, lt_q, g3, f_X1_rowWith_70, nI_1]
          exact go _ (rF_lt (sv_1 h.1 hs) hr)
        · rw [if_neg (fun y => e ((nI_eq (by omega) (by omega)).mp y)), f_X1_rowWith_70, nI_1]
          exact go r hr
theorem x1_so (h : TL c ua ga N R SL SR uS uP aT aD aL) {i set : Nat} (hi : i < ga) (hset : set < 16) : ∃ b : Nat, b ≤ 1 ∧ f_X1_isSo (nI i) (nI set) (nI ua) aD aL aT SL SR uP uS = some (nI b) := by
  have hg := h.2.2.1
  obtain ⟨s, m, l, h1, h2, h3, h4, h5, h6⟩ := h.2.2.2.2 i hi
  obtain ⟨r', r1, r2⟩ := x1_row_22 h h1 hset kFU 0 (R s) (Nat.zero_le _) (by have := h.2.1; unfold kFU; omega) (sv_R h.1 h1)
  have e1 : f_X1_rowWith (nI s) (nI set) (nI ua) SL SR uP uS = some (nI r') := by
    rw [f_X1_rowWith, sv_r h.1 h1, bd_s, sv_n h.1 h1, bd_s]; exact r2
  have e2 : f_X1_isSo (nI i) (nI set) (nI ua) aD aL aT SL SR uP uS = if nI (rAg (N s) r' m (rRep (N s) r')) = nI l then some 1 else some 0 := by
    rw [f_X1_isSo, x11_at (by decide) (by omega), bd_s, h4, sv_n h.1 h1, bd_s, e1, bd_s, x11_at (by decide) (by omega), bd_s, h5, x8_layersAlike (sv_1 h.1 h1) (sv_2 h.1 h1) r1 h2, bd_s, x11_at (by decide) (by omega), bd_s, h6]
  rw [e2]
  by_cases q : nI (rAg (N s) r' m (rRep (N s) r')) = nI l
  · exact ⟨1, Nat.le_refl _, by rw [if_pos q]; rfl⟩
  · exact ⟨0, Nat.zero_le _, by rw [if_neg q]; rfl⟩
theorem x1_all_2 (h : TL c ua ga N R SL SR uS uP aT aD aL) {set : Nat} (hset : set < 16) : ∀ (f i : Nat), i ≤ ga → ga - i < f → ∃ b : Nat, b ≤ 1 ∧ f_X1_areAllSo_2 f (nI set) (nI i) (nI ga) (nI ua) aD aL aT SL SR uP uS = some (nI b) ∧ ((∀ j, i ≤ j → j < ga → f_X1_isSo (nI j) (nI set) (nI ua) aD aL aT SL SR uP uS = some 1) → b = 1)
  | 0, _, _, hf => absurd hf (Nat.not_lt_zero _)
  | f + 1, i, hi, hf => by
    have hg := h.2.2.1
    rw [f_X1_areAllSo_2]
    by_cases q : i = ga
    · subst q
      rw [if_pos (Int32.le_refl _)]
      exact ⟨1, Nat.le_refl _, rfl, fun _ => rfl⟩
    · rw [if_neg (nI_ge (by omega) (by omega))]
      obtain ⟨b, b1, b2⟩ := x1_so h (show i < ga by omega) hset
      rw [b2, bd_s]
      rcases (by omega : b = 0 ∨ b = 1) with rfl | rfl
      · rw [if_pos nI_0]
        refine ⟨0, Nat.zero_le _, rfl, fun g => ?_⟩
        have := g i (Nat.le_refl _) (by omega)
        rw [b2] at this
        exact absurd (Option.some.inj this) (by decide)
      · rw [if_neg (show ¬ nI 1 = 0 by decide), nI_1]
        obtain ⟨b', k1, k2, k3⟩ := x1_all_2 h hset f (i + 1) (by omega) (by omega)
        exact ⟨b', k1, k2, fun g => k3 (fun j j1 j2 => g j (by omega) j2)⟩
theorem x1_all (h : TL c ua ga N R SL SR uS uP aT aD aL) {set : Nat} (hset : set < 16) : ∃ b : Nat, b ≤ 1 ∧ f_X1_areAllSo (nI set) (nI ga) (nI ua) aD aL aT SL SR uP uS = some (nI b) ∧ ((∀ j, j < ga → f_X1_isSo (nI j) (nI set) (nI ua) aD aL aT SL SR uP uS = some 1) → b = 1) := by
  obtain ⟨b, b1, b2, b3⟩ := x1_all_2 h hset kFU 0 (Nat.zero_le _) (by have := h.2.2.1; unfold kFU; omega)
  exact ⟨b, b1, b2, fun g => b3 (fun j _ hj => g j hj)⟩
/-- the set of sets, as bits -/
def FB (B : Nat) : Nat → Nat := fun s => B / 2 ^ s % 2
theorem FB_of {F : Nat → Nat} {K : Nat} (h : FK F K) : ∃ B, B < 2 ^ K ∧ F = FB B := by
  refine ⟨mk F K, mk_lt h.1 K, funext fun s => ?_⟩
  show F s = mk F K / 2 ^ s % 2
  rw [mk_bit h.1 s K]
  by_cases q : s < K
  · rw [if_pos q]
  · rw [if_neg q]; exact h.2.1 s (by omega)
theorem v_of (h : TL c ua ga N R SL SR uS uP aT aD aL) : ∃ B, B < 2 ^ 2 ^ ua ∧ FK (FB B) (2 ^ ua) ∧ f_X1_of (nI ga) (nI ua) aD aL aT SL SR uP uS = some (nI (mk (FB B) (2 ^ ua))) ∧ ((∀ j, j < ga → f_X1_isSo (nI j) (nI 0) (nI ua) aD aL aT SL SR uP uS = some 1) → FB B 0 = 1) := by
  have hu := h.2.1
  have p4 : 2 ^ ua ≤ 2 ^ 2 := Nat.pow_le_pow_right (by decide) hu
  have p4' : (2 : Nat) ^ 2 = 4 := by decide
  have fk := sel_FK (fun s => f_X1_areAllSo (nI s) (nI ga) (nI ua) aD aL aT SL SR uP uS) (N := 2 ^ ua) (by omega)
  have at' : ∀ s, s < 2 ^ ua → f_X1_areAllSo (nI s) (nI ga) (nI ua) aD aL aT SL SR uP uS = some (nI (sel (fun s => f_X1_areAllSo (nI s) (nI ga) (nI ua) aD aL aT SL SR uP uS) (2 ^ ua) s)) := fun s hs => by
    obtain ⟨b, b1, b2, -⟩ := x1_all h (set := s) (by omega)
    rw [sel_at (p := fun s => f_X1_areAllSo (nI s) (nI ga) (nI ua) aD aL aT SL SR uP uS) (b := b) (by omega) b2 hs]
    exact b2
  have e := x1_of_4 fk (show ua ≤ 4 by omega) rfl at' kFU 0 (Nat.zero_le _) (by unfold kFU; omega)
  obtain ⟨b, b1, b2, b3⟩ := x1_all h (set := 0) (by omega)
  have s0 := sel_at (p := fun s => f_X1_areAllSo (nI s) (nI ga) (nI ua) aD aL aT SL SR uP uS) (N := 2 ^ ua) (b := b) (by omega) b2 (Nat.two_pow_pos _)
  generalize sel (fun s => f_X1_areAllSo (nI s) (nI ga) (nI ua) aD aL aT SL SR uP uS) (2 ^ ua) = F at *
  obtain ⟨B, k1, k2⟩ := FB_of fk
  rw [k2] at fk e s0
  exact ⟨B, k1, fk, e, fun g => by rw [s0]; exact b3 g⟩
abbrev srl (B ua : Nat) : Nat := if sm (FB B) (2 ^ ua) = 0 then 0 else aS (FB B) (2 ^ ua - 1) (2 ^ ua)
theorem v_fits (B : Nat) (fk : FK (FB B) (2 ^ ua)) (e : f_X1_of (nI ga) (nI ua) aD aL aT SL SR uP uS = some (nI (mk (FB B) (2 ^ ua)))) (t : Int32) : f_X11_fits t (nI ga) 1 (nI ua) aD aL aT SL SR uP uS = some (nI (sm (FB B) (2 ^ ua)), 0) := by
  rw [f_X11_fits, if_neg (by decide), e, bd_s, mk_cnt fk, bd_s, f_X11_granted, bd_s]
theorem v_could (B : Nat) (fk : FK (FB B) (2 ^ ua)) (e : f_X1_of (nI ga) (nI ua) aD aL aT SL SR uP uS = some (nI (mk (FB B) (2 ^ ua)))) (t : Int32) : f_X11_could t (nI ga) 1 (nI ua) aD aL aT SL SR uP uS = some (nI (oS (FB B) (2 ^ ua)), 0) := by
  have k : f_X1_inSome (nI (mk (FB B) (2 ^ ua))) = some (nI (oS (FB B) (2 ^ ua))) := by rw [f_X1_inSome]; exact x1_inSome_4 fk kFU 0 (Nat.zero_le _) (by unfold kFU; omega)
  rw [f_X11_could, if_neg (by decide), e, bd_s, k, bd_s, f_X11_granted, bd_s]
theorem v_surely (B : Nat) (hu : ua ≤ 2) (fk : FK (FB B) (2 ^ ua)) (e : f_X1_of (nI ga) (nI ua) aD aL aT SL SR uP uS = some (nI (mk (FB B) (2 ^ ua)))) (t : Int32) : f_X11_surely t (nI ga) 1 (nI ua) aD aL aT SL SR uP uS = some (nI (srl B ua), 0) := by
  rw [f_X11_surely, if_neg (by decide), e, bd_s, x1_inAll fk (by omega), bd_s, f_X11_granted, bd_s]
theorem v_ask (B : Nat) (hu : ua ≤ 2) (fk : FK (FB B) (2 ^ ua)) (e : f_X1_of (nI ga) (nI ua) aD aL aT SL SR uP uS = some (nI (mk (FB B) (2 ^ ua)))) (t : Int32) : f_X11_ask t (nI ga) 1 (nI ua) aD aL aT SL SR uP uS = some (if sm (FB B) (2 ^ ua) = 0 ∨ ua = 0 then -2 else nI (bQ (FB B) (2 ^ ua) (ua - 1)), 0) := by
  rw [f_X11_ask, if_neg (by decide), e, bd_s, x1_best fk (by omega), bd_s, f_X11_granted, bd_s]
theorem v_askLeaves (B : Nat) (hu : ua ≤ 2) (fk : FK (FB B) (2 ^ ua)) (e : f_X1_of (nI ga) (nI ua) aD aL aT SL SR uP uS = some (nI (mk (FB B) (2 ^ ua)))) (t : Int32) : f_X11_askLeaves t (nI ga) 1 (nI ua) aD aL aT SL SR uP uS = some (if sm (FB B) (2 ^ ua) = 0 ∨ ua = 0 then -2 else nI (mL (FB B) (2 ^ ua) (bQ (FB B) (2 ^ ua) (ua - 1))), 0) := by
  have bl := bQ_le (FB B) (2 ^ ua) (ua - 1)
  rw [f_X11_askLeaves, if_neg (by decide), e, bd_s, x1_best fk (by omega), bd_s]
  by_cases q : sm (FB B) (2 ^ ua) = 0 ∨ ua = 0
  · rw [if_pos q, if_neg (show ¬ (0 : Int32) ≤ -2 by decide), f_X11_askLeaves_52, f_X11_granted, bd_s, if_pos q]
  · rw [if_neg q, if_pos (nI_pos' (by omega)), x1_most fk (by omega), bd_s, f_X11_askLeaves_52, f_X11_granted, bd_s, if_neg q]
theorem v_fitAt (B : Nat) (fk : FK (FB B) (2 ^ ua)) (e : f_X1_of (nI ga) (nI ua) aD aL aT SL SR uP uS = some (nI (mk (FB B) (2 ^ ua)))) {i : Nat} (hi : i < 2 ^ 31) (hn : ¬ fd (FB B) i (2 ^ ua) = -1) (t : Int32) : f_X11_fitAt (nI i) t (nI ga) 1 (nI ua) aD aL aT SL SR uP uS = some (fd (FB B) i (2 ^ ua), 0) := by
  have k : f_X1_setAt (nI (mk (FB B) (2 ^ ua))) (nI i) = some (fd (FB B) i (2 ^ ua)) := by rw [f_X1_setAt]; exact x1_setAt_4 fk hi kFU 0 (Nat.zero_le _) (by unfold kFU; omega) (Nat.zero_le _) rfl
  rw [f_X11_fitAt, if_neg (by decide), e, bd_s, k, bd_s, if_neg hn, f_X11_granted, bd_s]
theorem v_judge_19 (h : TL c ua ga N R SL SR uS uP aT aD aL) (t : Int32) : ∀ (f i : Nat), i ≤ ga → ga - i < f → (∀ j, j < i → f_X1_isSo (nI j) (nI 0) (nI ua) aD aL aT SL SR uP uS = some 1) → ∃ x : Int32, f_X11_judge_19 f (nI i) t (nI ga) 1 (nI ua) aD aL aT SL SR uP uS = some (x, 0) ∧ (x < 0 → ∀ j, j < ga → f_X1_isSo (nI j) (nI 0) (nI ua) aD aL aT SL SR uP uS = some 1)
  | 0, _, _, hf, _ => absurd hf (Nat.not_lt_zero _)
  | f + 1, i, hi, hf, hj => by
    have hg := h.2.2.1
    rw [f_X11_judge_19]
    by_cases q : i = ga
    · subst q
      rw [if_pos (Int32.le_refl _), f_X11_granted, bd_s]
      exact ⟨-2, rfl, fun _ => hj⟩
    · rw [if_neg (nI_ge (by omega) (by omega))]
      obtain ⟨b, b1, b2⟩ := x1_so h (show i < ga by omega) (show 0 < 16 by decide)
      have b2' : f_X1_isSo (nI i) (0 : Int32) (nI ua) aD aL aT SL SR uP uS = some (nI b) := b2
      rw [b2', bd_s]
      rcases (by omega : b = 0 ∨ b = 1) with rfl | rfl
      · rw [if_pos nI_0, f_X11_granted, bd_s]
        exact ⟨nI i, rfl, fun z => absurd z (nI_pos (by omega))⟩
      · rw [if_neg (show ¬ nI 1 = 0 by decide), nI_1]
        exact v_judge_19 h t f (i + 1) (by omega) (by omega) (fun j j1 => by
          by_cases z : j = i
          · rw [z]; exact b2
          · exact hj j (by omega))
theorem v_judge (h : TL c ua ga N R SL SR uS uP aT aD aL) (t : Int32) : ∃ x : Int32, f_X11_judge t (nI ga) 1 (nI ua) aD aL aT SL SR uP uS = some (x, 0) ∧ (x < 0 → ∀ j, j < ga → f_X1_isSo (nI j) (nI 0) (nI ua) aD aL aT SL SR uP uS = some 1) := by
  rw [f_X11_judge, if_neg (by decide)]
  exact v_judge_19 h t kFU 0 (Nat.zero_le _) (by have := h.2.2.1; unfold kFU; omega) (fun j hj => absurd hj (Nat.not_lt_zero _))
end VFIT
/-- what the law asks of the sets, all looked through -/
def fOK (ua B : Nat) : Bool :=
  Nat.ble (sm (FB B) (2 ^ ua)) (2 ^ ua) && (decide (sm (FB B) (2 ^ ua) = 0 ∨ ua = 0) || Nat.ble (mL (FB B) (2 ^ ua) (bQ (FB B) (2 ^ ua) (ua - 1))) (sm (FB B) (2 ^ ua))) && decide (nI (srl B ua) &&& (nI (oS (FB B) (2 ^ ua)) ^^^ (-1 : Int32)) = 0) && (FB B 0 == 0 || Nat.ble 1 (sm (FB B) (2 ^ ua))) &&
  allB (sm (FB B) (2 ^ ua)) (fun i => decide (¬ fd (FB B) i (2 ^ ua) = -1) && (if i = 0 then decide ((-1 : Int32) < fd (FB B) i (2 ^ ua)) else decide (fd (FB B) (i - 1) (2 ^ ua) < fd (FB B) i (2 ^ ua))) && decide (fd (FB B) i (2 ^ ua) &&& (nI (oS (FB B) (2 ^ ua)) ^^^ (-1 : Int32)) = 0) && decide (nI (srl B ua) &&& (fd (FB B) i (2 ^ ua) ^^^ (-1 : Int32)) = 0))
theorem fOK_all : allB 3 (fun ua => allB (2 ^ 2 ^ ua) (fun B => fOK ua B)) = true := by decide +kernel
theorem fOK_at {ua B : Nat} (hu : ua ≤ 2) (hB : B < 2 ^ 2 ^ ua) : sm (FB B) (2 ^ ua) ≤ 2 ^ ua ∧ (¬ (sm (FB B) (2 ^ ua) = 0 ∨ ua = 0) → mL (FB B) (2 ^ ua) (bQ (FB B) (2 ^ ua) (ua - 1)) ≤ sm (FB B) (2 ^ ua)) ∧ nI (srl B ua) &&& (nI (oS (FB B) (2 ^ ua)) ^^^ (-1 : Int32)) = 0 ∧ (FB B 0 = 1 → 1 ≤ sm (FB B) (2 ^ ua)) ∧
    ∀ i, i < sm (FB B) (2 ^ ua) → ¬ fd (FB B) i (2 ^ ua) = -1 ∧ (i = 0 → (-1 : Int32) < fd (FB B) i (2 ^ ua)) ∧ (i ≠ 0 → fd (FB B) (i - 1) (2 ^ ua) < fd (FB B) i (2 ^ ua)) ∧ fd (FB B) i (2 ^ ua) &&& (nI (oS (FB B) (2 ^ ua)) ^^^ (-1 : Int32)) = 0 ∧ nI (srl B ua) &&& (fd (FB B) i (2 ^ ua) ^^^ (-1 : Int32)) = 0 := by
  have h := allB_at (allB_at fOK_all ua (by omega)) B hB
  unfold fOK at h
  rw [Bool.and_eq_true, Bool.and_eq_true, Bool.and_eq_true, Bool.and_eq_true] at h
  obtain ⟨⟨⟨⟨h1, h2⟩, h3⟩, h4⟩, h5⟩ := h
  refine ⟨Nat.le_of_ble_eq_true h1, fun z => ?_, of_decide_eq_true h3, fun z => ?_, fun i hi => ?_⟩
  · rw [Bool.or_eq_true] at h2
    rcases h2 with h2 | h2
    · exact absurd (of_decide_eq_true h2) z
    · exact Nat.le_of_ble_eq_true h2
  · rw [Bool.or_eq_true] at h4
    rcases h4 with h4 | h4
    · have := beq_iff_eq.mp h4; omega
    · exact Nat.le_of_ble_eq_true h4
  · have g := allB_at h5 i hi
    rw [Bool.and_eq_true, Bool.and_eq_true, Bool.and_eq_true] at g
    obtain ⟨⟨⟨g1, g2⟩, g3⟩, g4⟩ := g
    refine ⟨of_decide_eq_true g1, fun z => ?_, fun z => ?_, of_decide_eq_true g3, of_decide_eq_true g4⟩
    · rw [if_pos z] at g2; exact of_decide_eq_true g2
    · rw [if_neg z] at g2; exact of_decide_eq_true g2
