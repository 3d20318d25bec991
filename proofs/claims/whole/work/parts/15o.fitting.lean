/-! THE REFERENCE'S COUNT OF THE SETS THAT FIT -/
def LBF (F : Nat → Nat) (ua ga : Nat) (mA mB mM mP bR bS mU : Nat → Int32) : Prop :=
  ∀ s, s < 2 ^ ua → ∀ u : Nat → Int32, ∃ (x : Int32) (u' : Nat → Int32), f_X13_wrongAgreed (nI s) (nI ga) (nI ua) mA mB mM mP bR bS mU u = some (x, u') ∧ ((F s = 1 ∧ x = -2) ∨ (F s = 0 ∧ x ≠ -2))
theorem x13_fit_118 {ua u0 s : Nat} {i x2 e1 e2 e3 G UA : Int32} {mA mB mM mP bR bS mU u : Nat → Int32} {k49 : Int32 → Int32 → Int32 → Int32 → Int32 → Int32 → Int32 → Int32 → (Nat → Int32) → (Nat → Int32) → (Nat → Int32) → (Nat → Int32) → (Nat → Int32) → (Nat → Int32) → (Nat → Int32) → (Nat → Int32) → (Nat → Int32) → Option (Int32 × Int32 × Int32 × Int32 × (Nat → Int32) × (Nat → Int32))} (hua : ua ≤ 4) (hU : UA = nI ua) (hs : s < 16) : ∀ (f k : Nat) (w : Nat → Int32) (g : Nat → Nat), k ≤ ua → ua - k < f → (∀ j, j < ua → w j = nI (if j < k then g j + s / 2 ^ j % 2 else g j)) →
    ∃ w', (∀ j, j < ua → w' j = nI (g j + s / 2 ^ j % 2)) ∧ f_X13_fitting_118 k49 f i x2 (nI s) (nI k) e1 e2 e3 G UA mA mB mM mP bR bS mU u w = k49 i x2 (nI (s + 1)) e1 e2 e3 G UA mA mB mM mP bR bS mU u w'
  | 0, _, _, _, _, h, _ => absurd h (Nat.not_lt_zero _)
  | f + 1, k, w, g, hk, hf, hw => by
    subst hU
    rw [f_X13_fitting_118]
    by_cases q : ua ≤ k
    · rw [if_pos ((nI_leI (by omega) (by omega)).mpr q), f_X13_fitting_160, nI_1]
      exact ⟨w, fun j hj => by rw [hw j hj, if_pos (by omega)], rfl⟩
    · have lb : s / 2 ^ k % 2 < 2 := Nat.mod_lt _ (by decide)
      have wk := hw k (by omega)
      rw [if_neg (Nat.lt_irrefl k)] at wk
      have go := fun w2 (h2 : ∀ j, j < ua → w2 j = nI (if j < k + 1 then g j + s / 2 ^ j % 2 else g j)) => x13_fit_118 (i := i) (x2 := x2) (e1 := e1) (e2 := e2) (e3 := e3) (G := G) (mA := mA) (mB := mB) (mM := mM) (mP := mP) (bR := bR) (bS := bS) (mU := mU) (u := u) (u0 := u0) (k49 := k49) hua rfl hs f (k + 1) w2 g (by omega) (by omega) h2
      have upd' : ∀ v : Nat, v = g k + s / 2 ^ k % 2 → ∀ j, j < ua → upd w k (nI v) j = nI (if j < k + 1 then g j + s / 2 ^ j % 2 else g j) := fun v hv j hj => by
        by_cases e : j = k
        · rw [e, pk_us, if_pos (by omega), hv]
        · rw [pk_un e, hw j hj]
          by_cases l : j < k
          · rw [if_pos l, if_pos (by omega)]
          · rw [if_neg l, if_neg (by omega)]
      rw [if_neg (fun z => q ((nI_leI (by omega) (by omega)).mp z)), gd_t _ (nI_in (by omega) (by omega)), x13_bit (by omega) (by omega), bd_s, nI_clamp (by omega), wk]
      rcases (by omega : s / 2 ^ k % 2 = 0 ∨ s / 2 ^ k % 2 = 1) with y | y
      · rw [y, if_pos nI_0, f_X13_fitting_152, lt_q, gd_t _ (nI_in (by omega) (by omega)), lt_q, nI_clamp (by omega), nI_1, show nI (g k) + (0 : Int32) = nI (g k + 0) from nI_add _ 0]
        exact go _ (upd' _ (by rw [y]))
      · rw [y, if_neg (by decide), f_X13_fitting_152, lt_q, gd_t _ (nI_in (by omega) (by omega)), lt_q, nI_clamp (by omega), nI_1, nI_1]
        exact go _ (upd' _ (by rw [y]))
theorem x13_fit_49 {F : Nat → Nat} {ua ga : Nat} {i UA G : Int32} {mA mB mM mP bR bS mU : Nat → Int32} (hF : FK F (2 ^ ua)) (hua : ua ≤ 4) (hU : UA = nI ua) (hG : G = nI ga) (h : LBF F ua ga mA mB mM mP bR bS mU) (fdI : Nat → Int32) (h0 : ∀ s, F s = 0 → fdI (s + 1) = fdI s) (h1 : ∀ s, F s = 1 → s < 16 → fdI (s + 1) = if nI (sm F s) = i then nI s else fdI s) : ∀ (f s : Nat) (u w : Nat → Int32), s ≤ 2 ^ ua → 2 ^ ua - s < f → (∀ j, j < ua → w j = nI (oI F j s)) →
    ∃ u' w', (∀ j, j < ua → w' j = nI (oI F j (2 ^ ua))) ∧ f_X13_fitting_49 f i (fdI s) (nI s) (nI (aS F (2 ^ ua - 1) s)) (nI (sm F s)) (nI (oS F s)) G UA mA mB mM mP bR bS mU u w = some (fdI (2 ^ ua), nI (if sm F (2 ^ ua) = 0 then 0 else aS F (2 ^ ua - 1) (2 ^ ua)), nI (sm F (2 ^ ua)), nI (oS F (2 ^ ua)), u', w')
  | 0, _, _, _, _, hf, _ => absurd hf (Nat.not_lt_zero _)
  | f + 1, s, u, w, hs, hf, hw => by
    subst hU hG
    have p16 : 2 ^ ua ≤ 16 := hF.2.2
    have ls := sm_le hF.1 s
    rw [f_X13_fitting_49, rf_pow (by omega)]
    by_cases q : 2 ^ ua ≤ s
    · have e : s = 2 ^ ua := by omega
      rw [if_pos ((nI_leI (by omega) (by omega)).mpr q)]
      subst e
      by_cases z : sm F (2 ^ ua) = 0
      · rw [if_pos (by rw [z]; rfl), if_pos z]
        exact ⟨u, w, hw, rfl⟩
      · rw [if_neg (nI_ne0 (by omega) (by omega)), if_neg z]
        exact ⟨u, w, hw, rfl⟩
    · obtain ⟨x, u1, a1, a2⟩ := h s (by omega) u
      rw [if_neg (fun z => q ((nI_leI (by omega) (by omega)).mp z)), a1, bd_s]
      rcases a2 with ⟨b1, b2⟩ | ⟨b1, b2⟩
      · have es : sm F (s + 1) = sm F s + 1 := by show sm F s + F s = _; rw [b1]
        have ea : aS F (2 ^ ua - 1) (s + 1) = Nat.land (aS F (2 ^ ua - 1) s) s := by rw [aS, if_neg (by omega)]
        have eo : oS F (s + 1) = Nat.lor (oS F s) s := by rw [oS, if_neg (by omega)]
        obtain ⟨w1, c1, c2⟩ := x13_fit_118 (u0 := 0) (i := i) (x2 := fdI (s + 1)) (e1 := nI (aS F (2 ^ ua - 1) (s + 1))) (e2 := nI (sm F (s + 1))) (e3 := nI (oS F (s + 1))) (G := nI ga) (UA := nI ua) (mA := mA) (mB := mB) (mM := mM) (mP := mP) (bR := bR) (bS := bS) (mU := mU) (u := u1) (k49 := fun a b c d e f' g h i j k l m n o p q => f_X13_fitting_49 f a b c d e f' g h i j k l m n o p q) hua rfl (show s < 16 by omega) kFU 0 w (fun j => oI F j s) (Nat.zero_le _) (by unfold kFU; omega) (fun j hj => by rw [hw j hj, if_neg (Nat.not_lt_zero j)])
        obtain ⟨u2, w2, d1, d2⟩ := x13_fit_49 hF hua rfl rfl h fdI h0 h1 f (s + 1) u1 w1 (by omega) (by omega) (fun j hj => by
          rw [c1 j hj]
          show nI (oI F j s + s / 2 ^ j % 2) = nI (oI F j s + F s * (s / 2 ^ j % 2))
          rw [b1, Nat.one_mul])
        have fin : ∀ y : Int32, fdI (s + 1) = y → f_X13_fitting_85 (fun a b c d e f' g h i j k l m n o p q => f_X13_fitting_49 f a b c d e f' g h i j k l m n o p q) i y (nI s) (nI (aS F (2 ^ ua - 1) s)) (nI (sm F s)) (nI (oS F s)) (nI ga) (nI ua) mA mB mM mP bR bS mU u1 w = some (fdI (2 ^ ua), nI (if sm F (2 ^ ua) = 0 then 0 else aS F (2 ^ ua - 1) (2 ^ ua)), nI (sm F (2 ^ ua)), nI (oS F (2 ^ ua)), u2, w2) := fun y hy => by
          rw [f_X13_fitting_85, lt_q, lt_q, lt_q, nI_1, nI_or, nI_and, ← es, ← ea, ← eo, ← hy]
          exact Eq.trans c2 d2
        rw [if_pos b2]
        have e1 := h1 s b1 (by omega)
        by_cases y : nI (sm F s) = i
        · rw [if_pos y] at e1 ⊢
          exact ⟨u2, w2, d1, fin _ e1⟩
        · rw [if_neg y] at e1 ⊢
          exact ⟨u2, w2, d1, fin _ e1⟩
      · have es : sm F (s + 1) = sm F s := by show sm F s + F s = _; rw [b1, Nat.add_zero]
        have ea : aS F (2 ^ ua - 1) (s + 1) = aS F (2 ^ ua - 1) s := by rw [aS, if_pos b1]
        have eo : oS F (s + 1) = oS F s := by rw [oS, if_pos b1]
        rw [if_neg b2, f_X13_fitting_160, nI_1]
        have IH := x13_fit_49 hF hua rfl rfl h fdI h0 h1 f (s + 1) u1 w (by omega) (by omega) (fun j hj => by
          rw [hw j hj]
          show nI (oI F j s) = nI (oI F j s + F s * (s / 2 ^ j % 2))
          rw [b1, Nat.zero_mul, Nat.add_zero])
        rw [es, ea, eo, h0 s b1] at IH
        exact IH
theorem x13_fit_29 {i UA G ev fn so : Int32} {mA mB mM mP bR bS mU u : Nat → Int32} {X2 : Int32} : ∀ (f k : Nat) (w : Nat → Int32), k ≤ 4 → 4 - k < f → (∀ j, j < k → w j = 0) →
    ∃ w', (∀ j, j < 4 → w' j = 0) ∧ f_X13_fitting_29 f i X2 (nI k) ev fn so G UA mA mB mM mP bR bS mU u w = f_X13_fitting_49 kFU i X2 0 ev fn so G UA mA mB mM mP bR bS mU u w'
  | 0, _, _, _, h, _ => absurd h (Nat.not_lt_zero _)
  | f + 1, k, w, hk, hf, hw => by
    rw [f_X13_fitting_29]
    by_cases q : 4 ≤ k
    · rw [if_pos (show (4 : Int32) ≤ nI k from (nI_leI (a := 4) (by omega) (by omega)).mpr q)]
      exact ⟨w, fun j hj => hw j (by omega), rfl⟩
    · rw [if_neg (show ¬ (4 : Int32) ≤ nI k from fun z => q ((nI_leI (a := 4) (by omega) (by omega)).mp z)), gd_t _ (nI_in (by omega) (by omega)), lt_q, nI_clamp (by omega), nI_1]
      refine x13_fit_29 f (k + 1) _ (by omega) (by omega) (fun j hj => ?_)
      by_cases e : j = k
      · rw [e, pk_us]
      · rw [pk_un e]; exact hw j (by omega)
theorem x13_fitting {F : Nat → Nat} {ua ga : Nat} {i ev fn so : Int32} {mA mB mM mP bR bS mU : Nat → Int32} (hF : FK F (2 ^ ua)) (hua : ua ≤ 4) (h : LBF F ua ga mA mB mM mP bR bS mU) (fdI : Nat → Int32) (hz : fdI 0 = -1) (h0 : ∀ s, F s = 0 → fdI (s + 1) = fdI s) (h1 : ∀ s, F s = 1 → s < 16 → fdI (s + 1) = if nI (sm F s) = i then nI s else fdI s) (u w : Nat → Int32) :
    ∃ u' w', (∀ j, j < ua → w' j = nI (oI F j (2 ^ ua))) ∧ f_X13_fitting i ev fn so (nI ga) (nI ua) mA mB mM mP bR bS mU u w = some (fdI (2 ^ ua), nI (if sm F (2 ^ ua) = 0 then 0 else aS F (2 ^ ua - 1) (2 ^ ua)), nI (sm F (2 ^ ua)), nI (oS F (2 ^ ua)), u', w') := by
  have p16 : 2 ^ ua ≤ 16 := hF.2.2
  obtain ⟨w1, a1, a2⟩ := x13_fit_29 (i := i) (UA := nI ua) (G := nI ga) (ev := nI (2 ^ ua - 1)) (fn := 0) (so := 0) (mA := mA) (mB := mB) (mM := mM) (mP := mP) (bR := bR) (bS := bS) (mU := mU) (u := u) (X2 := -1) kFU 0 w (Nat.zero_le _) (by unfold kFU; omega) (fun j hj => absurd hj (Nat.not_lt_zero _))
  obtain ⟨u2, w2, d1, d2⟩ := x13_fit_49 (i := i) (UA := nI ua) (G := nI ga) hF hua rfl rfl h fdI h0 h1 kFU 0 u w1 (Nat.zero_le _) (by unfold kFU; omega) (fun j hj => by rw [a1 j (by omega)]; rfl)
  refine ⟨u2, w2, d1, ?_⟩
  rw [hz] at d2
  rw [f_X13_fitting, lt_q, rf_pow (by omega), nI_m1 (Nat.two_pow_pos ua)]
  exact a2.trans d2
/-! the class's number of the sets -/
theorem x1_of_4 {F : Nat → Nat} {ua : Nat} {G UA : Int32} {aD aL aS' SL SR uP uS : Nat → Int32} (hF : FK F (2 ^ ua)) (hua : ua ≤ 4) (hU : UA = nI ua) (h : ∀ s, s < 2 ^ ua → f_X1_areAllSo (nI s) G UA aD aL aS' SL SR uP uS = some (nI (F s))) : ∀ (f s : Nat), s ≤ 2 ^ ua → 2 ^ ua - s < f → f_X1_of_4 f (nI (mk F s)) (nI s) G UA aD aL aS' SL SR uP uS = some (nI (mk F (2 ^ ua)))
  | 0, _, _, h => absurd h (Nat.not_lt_zero _)
  | f + 1, s, hs, hf => by
    subst hU
    have p16 : 2 ^ ua ≤ 16 := hF.2.2
    rw [f_X1_of_4, rf_pow (by omega)]
    by_cases q : 2 ^ ua ≤ s
    · rw [if_pos ((nI_leI (by omega) (by omega)).mpr q), show s = 2 ^ ua by omega]
    · have IH := x1_of_4 hF hua rfl h f (s + 1) (by omega) (by omega)
      have lt := mk_lt hF.1 s
      rw [if_neg (fun z => q ((nI_leI (by omega) (by omega)).mp z)), h s (by omega), bd_s]
      rcases F_01 hF s with e | e
      · rw [mk, e, Nat.zero_mul, Nat.add_zero] at IH
        rw [e, if_pos nI_0, f_X1_of_30, lt_q, nI_1, show (0 : Int32) = nI 0 from rfl, nI_or, show Nat.lor (mk F s) 0 = mk F s from Nat.or_zero _]
        exact IH
      · rw [mk, e, Nat.one_mul] at IH
        have r : (1 : Int32) <<< (nI s &&& 31) = nI (2 ^ s) := of_decide_eq_true (allB_at (N := 16) (p := fun s => decide ((1 : Int32) <<< (nI s &&& 31) = nI (2 ^ s))) (by decide +kernel) s (by omega))
        rw [e, if_neg (by decide), f_X1_of_30, lt_q, nI_1, r, nI_or, ln_add lt]
        exact IH
def sel (p : Nat → Option Int32) (N s : Nat) : Nat := if p s = some (nI 1) ∧ s < N then 1 else 0
theorem sel_FK (p : Nat → Option Int32) {N : Nat} (h : N ≤ 16) : FK (sel p N) N := ⟨fun s => by unfold sel; split <;> omega, fun s hs => by unfold sel; rw [if_neg (fun z => by omega)], h⟩
theorem sel_at {p : Nat → Option Int32} {N s b : Nat} (hb : b = 0 ∨ b = 1) (e : p s = some (nI b)) (hs : s < N) : sel p N s = b := by
  unfold sel
  rcases hb with rfl | rfl
  · rw [if_neg (fun z => by have := Option.some.inj (e.symm.trans z.1); exact absurd this (by decide))]
  · rw [if_pos ⟨e, hs⟩]
/-- what both programs find in a lab -/
theorem q_F {c ua ga : Nat} {SL SR bS bR uS uP mU mP aS' aD aL mA mB mM : Nat → Int32} (h : LB c ua ga SL SR bS bR uS uP mU mP aS' aD aL mA mB mM) : ∃ F : Nat → Nat, FK F (2 ^ ua) ∧ f_X1_of (nI ga) (nI ua) aD aL aS' SL SR uP uS = some (nI (mk F (2 ^ ua))) ∧ LBF F ua ga mA mB mM mP bR bS mU := by
  have hu := h.2.1
  have hg := h.2.2.1
  have p16 : 2 ^ ua ≤ 2 ^ 4 := Nat.pow_le_pow_right (by decide) hu
  have key : ∀ s, s < 2 ^ ua → ∃ b : Nat, (b = 0 ∨ b = 1) ∧ f_X1_areAllSo (nI s) (nI ga) (nI ua) aD aL aS' SL SR uP uS = some (nI b) ∧ ∀ u : Nat → Int32, ∃ (x : Int32) (u' : Nat → Int32), f_X13_wrongAgreed (nI s) (nI ga) (nI ua) mA mB mM mP bR bS mU u = some (x, u') ∧ ((b = 1 ∧ x = -2) ∨ (b = 0 ∧ x ≠ -2)) := fun s hs => by
    obtain ⟨b, x, u', r1, r2, r3⟩ := q_all (set := s) h (by omega) kFU kFU 0 (fun _ => 0) (Nat.zero_le _) (by unfold kFU; omega) (by unfold kFU; omega)
    refine ⟨b, by omega, r1, fun u => ?_⟩
    obtain ⟨b2, x2, u2, s1, s2, s3⟩ := q_all (set := s) h (by omega) kFU kFU 0 u (Nat.zero_le _) (by unfold kFU; omega) (by unfold kFU; omega)
    refine ⟨x2, u2, s2, ?_⟩
    have e := Option.some.inj (r1.symm.trans s1)
    have : b = b2 := (nI_eq (by omega) (by omega)).mp e
    rw [this]; exact s3
  have k16 := sel_FK (fun s => f_X1_areAllSo (nI s) (nI ga) (nI ua) aD aL aS' SL SR uP uS) p16
  refine ⟨_, k16, ?_, fun s hs u => ?_⟩
  · refine x1_of_4 k16 hu rfl (fun s hs => ?_) kFU 0 (Nat.zero_le _) (by unfold kFU; omega)
    obtain ⟨b, b1, b2, -⟩ := key s hs
    rw [sel_at b1 b2 hs]; exact b2
  · obtain ⟨b, b1, b2, b3⟩ := key s hs
    obtain ⟨x, u', c1, c2⟩ := b3 u
    exact ⟨x, u', c1, by rw [sel_at b1 b2 hs]; exact c2⟩
