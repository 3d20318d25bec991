/-! THE CALLS OF UNSURE STEPS -/
theorem fdI_neg {F : Nat → Nat} {K : Nat} (h : FK F K) {i : Int32} (hi : i < 0) : ∀ s, F s = 1 → s < 16 → (-1 : Int32) = if nI (sm F s) = i then nI s else -1 := fun s _ hs => by
  have l := sm_le h.1 s
  rw [if_neg (fun z => by rw [← z] at hi; exact nI_pos (by omega) hi)]
theorem q_fits {c ua ga : Nat} {SL SR bS bR uS uP mU mP aS' aD aL mA mB mM : Nat → Int32} (h : LB c ua ga SL SR bS bR uS uP mU mP aS' aD aL mA mB mM) (t ev fn so a b d : Int32) (u w : Nat → Int32) : ∃ (x y ev' fn' so' : Int32) (u' w' : Nat → Int32), y ≠ 4 ∧ f_X11_fits t (nI ga) 1 (nI ua) aD aL aS' SL SR uP uS = some (x, y) ∧ f_X13_fits ev fn so a b d (nI ga) (nI ua) mA mB mM mP bR bS mU u w = some (x, ev', fn', so', 0, y, -1, u', w') := by
  obtain ⟨F, hF, h1, h2⟩ := q_F h
  obtain ⟨u', w', -, e⟩ := x13_fitting (i := -1) (ev := ev) (fn := fn) (so := so) hF h.2.1 h2 (fun _ => -1) rfl (fun _ _ => rfl) (fdI_neg hF (by decide)) u w
  refine ⟨nI (sm F (2 ^ ua)), 0, nI (if sm F (2 ^ ua) = 0 then 0 else aS F (2 ^ ua - 1) (2 ^ ua)), nI (sm F (2 ^ ua)), nI (oS F (2 ^ ua)), u', w', by decide, ?_, ?_⟩
  · rw [f_X11_fits, if_neg (by decide), h1, bd_s, mk_cnt hF, bd_s, f_X11_granted, bd_s]
  · rw [f_X13_fits, e, bd_s, f_X13_good, bd_s]
theorem q_could {c ua ga : Nat} {SL SR bS bR uS uP mU mP aS' aD aL mA mB mM : Nat → Int32} (h : LB c ua ga SL SR bS bR uS uP mU mP aS' aD aL mA mB mM) (t ev fn so a b d : Int32) (u w : Nat → Int32) : ∃ (x y ev' fn' so' : Int32) (u' w' : Nat → Int32), y ≠ 4 ∧ f_X11_could t (nI ga) 1 (nI ua) aD aL aS' SL SR uP uS = some (x, y) ∧ f_X13_could ev fn so a b d (nI ga) (nI ua) mA mB mM mP bR bS mU u w = some (x, ev', fn', so', 0, y, -1, u', w') := by
  obtain ⟨F, hF, h1, h2⟩ := q_F h
  obtain ⟨u', w', -, e⟩ := x13_fitting (i := -1) (ev := ev) (fn := fn) (so := so) hF h.2.1 h2 (fun _ => -1) rfl (fun _ _ => rfl) (fdI_neg hF (by decide)) u w
  have o : f_X1_inSome (nI (mk F (2 ^ ua))) = some (nI (oS F (2 ^ ua))) := x1_inSome_4 hF kFU 0 (by omega) (by unfold kFU; omega)
  refine ⟨nI (oS F (2 ^ ua)), 0, nI (if sm F (2 ^ ua) = 0 then 0 else aS F (2 ^ ua - 1) (2 ^ ua)), nI (sm F (2 ^ ua)), nI (oS F (2 ^ ua)), u', w', by decide, ?_, ?_⟩
  · rw [f_X11_could, if_neg (by decide), h1, bd_s, o, bd_s, f_X11_granted, bd_s]
  · rw [f_X13_could, e, bd_s, f_X13_good, bd_s]
theorem q_surely {c ua ga : Nat} {SL SR bS bR uS uP mU mP aS' aD aL mA mB mM : Nat → Int32} (h : LB c ua ga SL SR bS bR uS uP mU mP aS' aD aL mA mB mM) (t ev fn so a b d : Int32) (u w : Nat → Int32) : ∃ (x y ev' fn' so' : Int32) (u' w' : Nat → Int32), y ≠ 4 ∧ f_X11_surely t (nI ga) 1 (nI ua) aD aL aS' SL SR uP uS = some (x, y) ∧ f_X13_surely ev fn so a b d (nI ga) (nI ua) mA mB mM mP bR bS mU u w = some (x, ev', fn', so', 0, y, -1, u', w') := by
  obtain ⟨F, hF, h1, h2⟩ := q_F h
  obtain ⟨u', w', -, e⟩ := x13_fitting (i := -1) (ev := ev) (fn := fn) (so := so) hF h.2.1 h2 (fun _ => -1) rfl (fun _ _ => rfl) (fdI_neg hF (by decide)) u w
  refine ⟨nI (if sm F (2 ^ ua) = 0 then 0 else aS F (2 ^ ua - 1) (2 ^ ua)), 0, nI (if sm F (2 ^ ua) = 0 then 0 else aS F (2 ^ ua - 1) (2 ^ ua)), nI (sm F (2 ^ ua)), nI (oS F (2 ^ ua)), u', w', by decide, ?_, ?_⟩
  · rw [f_X11_surely, if_neg (by decide), h1, bd_s, x1_inAll hF h.2.1, bd_s, f_X11_granted, bd_s]
  · rw [f_X13_surely, e, bd_s, f_X13_good, bd_s]
theorem fd_val (F : Nat → Nat) (i : Nat) : ∀ k, k ≤ 16 → fd F i k = -1 ∨ ∃ s, s < 16 ∧ fd F i k = nI s
  | 0, _ => Or.inl rfl
  | k + 1, h => by
    rw [fd]
    split
    · exact fd_val F i k (by omega)
    · split
      · exact Or.inr ⟨k, by omega, rfl⟩
      · exact fd_val F i k (by omega)
theorem q_fitAt {c ua ga : Nat} {SL SR bS bR uS uP mU mP aS' aD aL mA mB mM : Nat → Int32} (h : LB c ua ga SL SR bS bR uS uP mU mP aS' aD aL mA mB mM) (p t ev fn so a b d : Int32) (u w : Nat → Int32) : ∃ (x y ev' fn' so' : Int32) (u' w' : Nat → Int32), y ≠ 4 ∧ f_X11_fitAt p t (nI ga) 1 (nI ua) aD aL aS' SL SR uP uS = some (x, y) ∧ f_X13_fitAt p ev fn so a b d (nI ga) (nI ua) mA mB mM mP bR bS mU u w = some (x, ev', fn', so', 0, y, -1, u', w') := by
  obtain ⟨F, hF, h1, h2⟩ := q_F h
  have p0 : (0 ≤ p) ↔ ¬ p < 0 := by rw [Int32.le_iff_toInt_le, Int32.lt_iff_toInt_lt]; omega
  by_cases g : p < 0
  · have s : f_X1_setAt (nI (mk F (2 ^ ua))) p = some (-1) := x1_setAt_neg hF g kFU 0 (by omega) (by unfold kFU; omega)
    refine ⟨-1, 1, ev, fn, so, u, w, by decide, ?_, ?_⟩
    · rw [f_X11_fitAt, if_neg (by decide), h1, bd_s, s, bd_s, if_pos rfl, f_X11_refused, bd_s]
    · rw [f_X13_fitAt, if_neg (fun z => (p0.mp z) g), f_X13_fitAt_16, f_X13_refused, bd_s]
  · obtain ⟨i, hi, rfl⟩ := nI_of g
    have s : f_X1_setAt (nI (mk F (2 ^ ua))) (nI i) = some (fd F i (2 ^ ua)) := x1_setAt_4 hF hi kFU 0 (by omega) (by unfold kFU; omega) (Nat.zero_le _) rfl
    obtain ⟨u', w', -, e⟩ := x13_fitting (i := nI i) (ev := ev) (fn := fn) (so := so) hF h.2.1 h2 (fd F i) rfl (fun s hs => by rw [fd, if_pos hs]) (fun s hs hs16 => by
      have l := sm_le hF.1 s
      rw [fd, if_neg (by omega)]
      by_cases z : sm F s = i
      · rw [if_pos z, if_pos (by rw [z])]
      · rw [if_neg z, if_neg (fun y => z ((nI_eq (by omega) hi).mp y))]) u w
    rcases fd_val F i (2 ^ ua) hF.2.2 with z | ⟨s', s1, z⟩
    · rw [z] at s e
      refine ⟨-1, 1, nI (if sm F (2 ^ ua) = 0 then 0 else aS F (2 ^ ua - 1) (2 ^ ua)), nI (sm F (2 ^ ua)), nI (oS F (2 ^ ua)), u', w', by decide, ?_, ?_⟩
      rotate_left
      · rw [f_X13_fitAt, if_pos (p0.mpr g), e, bd_s, if_pos rfl, f_X13_refused, bd_s]
      · rw [f_X11_fitAt, if_neg (by decide), h1, bd_s, s, bd_s, if_pos rfl, f_X11_refused, bd_s]
    · have ne : ¬ nI s' = (-1 : Int32) := fun y => by
        have := nI_pos (n := s') (by omega)
        rw [y] at this
        exact this (by decide)
      rw [z] at s e
      refine ⟨nI s', 0, nI (if sm F (2 ^ ua) = 0 then 0 else aS F (2 ^ ua - 1) (2 ^ ua)), nI (sm F (2 ^ ua)), nI (oS F (2 ^ ua)), u', w', by decide, ?_, ?_⟩
      · rw [f_X11_fitAt, if_neg (by decide), h1, bd_s, s, bd_s, if_neg ne, f_X11_granted, bd_s]
      · rw [f_X13_fitAt, if_pos (p0.mpr g), e, bd_s, if_neg ne, f_X13_good, bd_s]
theorem mL_alt {F : Nat → Nat} {K : Nat} (h : FK F K) (u : Nat) : (if nI (oI F u K) ≤ nI (sm F K) - nI (oI F u K) then nI (sm F K) - nI (oI F u K) else nI (oI F u K)) = nI (mL F K u) := by
  have a := oI_le h.1 u K
  have b := sm_le h.1 K
  have c := h.2.2
  rw [pk_sub a]
  unfold mL
  by_cases q : oI F u K ≤ sm F K - oI F u K
  · rw [if_pos ((nI_leI (by omega) (by omega)).mpr q)]
    by_cases z : oI F u K < sm F K - oI F u K
    · rw [if_pos z]
    · rw [if_neg z, show sm F K - oI F u K = oI F u K by omega]
  · rw [if_neg (fun z => q ((nI_leI (by omega) (by omega)).mp z)), if_neg (by omega)]
theorem x13_asks_17 {F : Nat → Nat} {ua : Nat} {ev so G UA SF : Int32} {mA mB mM mP bR bS mU u w : Nat → Int32} (hF : FK F (2 ^ ua)) (hua : ua ≤ 4) (hU : UA = nI ua) (hS : SF = nI (sm F (2 ^ ua))) (hs : 0 < sm F (2 ^ ua)) (hw : ∀ j, j < ua → w j = nI (oI F j (2 ^ ua))) : ∀ (f k : Nat), k < ua → ua - k ≤ f →
    f_X13_asks_17 f (nI (bQ F (2 ^ ua) k)) (nI (k + 1)) (nI (mL F (2 ^ ua) (bQ F (2 ^ ua) k))) ev SF so G UA mA mB mM mP bR bS mU u w = some (nI (bQ F (2 ^ ua) (ua - 1)), nI (mL F (2 ^ ua) (bQ F (2 ^ ua) (ua - 1))), ev, SF, so, u, w)
  | 0, _, h, h' => by omega
  | f + 1, k, hk, hf => by
    subst hU hS
    have lb := bQ_le F (2 ^ ua) k
    have m1 := mL_le hF (k + 1)
    have m2 := mL_le hF (bQ F (2 ^ ua) k)
    have ls := sm_le hF.1 (2 ^ ua)
    have p16 : 2 ^ ua ≤ 16 := hF.2.2
    rw [f_X13_asks_17]
    by_cases q : ua ≤ k + 1
    · rw [if_pos ((nI_leI (by omega) (by omega)).mpr q), show k = ua - 1 by omega]
    · have IH := x13_asks_17 (ev := ev) (so := so) (G := G) (mA := mA) (mB := mB) (mM := mM) (mP := mP) (bR := bR) (bS := bS) (mU := mU) (u := u) hF hua rfl rfl hs hw f (k + 1) (by omega) (by omega)
      have ma := mL_alt hF (k + 1)
      have ne : ¬ nI (bQ F (2 ^ ua) k) = (-2 : Int32) := fun y => by
        have := nI_pos (n := bQ F (2 ^ ua) k) (by omega)
        rw [y] at this
        exact this (by decide)
      have go : ∀ v : Int32, v = nI (mL F (2 ^ ua) (k + 1)) → f_X13_asks_75 (fun x1 x2 a b c d e g h i j l m n o p q => f_X13_asks_17 f x1 x2 a b c d e g h i j l m n o p q) (nI (bQ F (2 ^ ua) k)) (nI (k + 1)) v (nI (mL F (2 ^ ua) (bQ F (2 ^ ua) k))) ev (nI (sm F (2 ^ ua))) so G (nI ua) mA mB mM mP bR bS mU u w = some (nI (bQ F (2 ^ ua) (ua - 1)), nI (mL F (2 ^ ua) (bQ F (2 ^ ua) (ua - 1))), ev, nI (sm F (2 ^ ua)), so, u, w) := fun v hv => by
        subst hv
        rw [f_X13_asks_75, if_neg ne]
        by_cases e : mL F (2 ^ ua) (bQ F (2 ^ ua) k) ≤ mL F (2 ^ ua) (k + 1)
        · rw [bQ, if_pos e] at IH
          rw [if_neg (nI_nlt e (by omega)), f_X13_asks_100, nI_1]
          exact IH
        · rw [bQ, if_neg e] at IH
          rw [if_pos ((nI_ltI (by omega) (by omega)).mpr (by omega)), f_X13_asks_93, f_X13_asks_100, nI_1]
          exact IH
      rw [if_neg (fun z => q ((nI_leI (by omega) (by omega)).mp z)), if_neg (nI_nle hs (by omega)), gd_t _ (nI_in (by omega) (by omega)), gd_t _ (nI_in (by omega) (by omega))]
      have rd : w (nI (k + 1)).toNatClampNeg = nI (oI F (k + 1) (2 ^ ua)) := by rw [nI_clamp (by omega)]; exact hw (k + 1) (by omega)
      rw [← rd] at ma
      by_cases z : w (nI (k + 1)).toNatClampNeg ≤ nI (sm F (2 ^ ua)) - w (nI (k + 1)).toNatClampNeg
      · rw [if_pos z] at ma ⊢
        rw [gd_t _ (nI_in (by omega) (by omega))]
        exact go _ ma
      · rw [if_neg z] at ma ⊢
        rw [gd_t _ (nI_in (by omega) (by omega))]
        exact go _ ma
theorem x13_asks {F : Nat → Nat} {ua ga : Nat} {al ev fn so : Int32} {mA mB mM mP bR bS mU : Nat → Int32} (hF : FK F (2 ^ ua)) (hua : ua ≤ 4) (h : LBF F ua ga mA mB mM mP bR bS mU) (u w : Nat → Int32) :
    ∃ (ev' fn' so' : Int32) (u' w' : Nat → Int32), f_X13_asks al ev fn so (nI ga) (nI ua) mA mB mM mP bR bS mU u w = some (if sm F (2 ^ ua) = 0 ∨ ua = 0 then -2 else nI (bQ F (2 ^ ua) (ua - 1)), if sm F (2 ^ ua) = 0 ∨ ua = 0 then -2 else nI (mL F (2 ^ ua) (bQ F (2 ^ ua) (ua - 1))), ev', fn', so', u', w') := by
  obtain ⟨u', w', k, e⟩ := x13_fitting (i := -1) (ev := ev) (fn := fn) (so := so) hF hua h (fun _ => -1) rfl (fun _ _ => rfl) (fdI_neg hF (by decide)) u w
  have ls := sm_le hF.1 (2 ^ ua)
  have p16 : 2 ^ ua ≤ 16 := hF.2.2
  refine ⟨nI (if sm F (2 ^ ua) = 0 then 0 else aS F (2 ^ ua - 1) (2 ^ ua)), nI (sm F (2 ^ ua)), nI (oS F (2 ^ ua)), u', w', ?_⟩
  rw [f_X13_asks, e, bd_s, show kFU = 99999 + 1 from rfl, f_X13_asks_17]
  by_cases u0 : ua = 0
  · rw [if_pos (show nI ua ≤ 0 by rw [u0]; decide), if_pos (Or.inr u0), if_pos (Or.inr u0)]
  · rw [if_neg (show ¬ nI ua ≤ 0 from nI_nle (by omega) (by omega))]
    by_cases s0 : sm F (2 ^ ua) = 0
    · rw [if_pos (show nI (sm F (2 ^ ua)) ≤ 0 by rw [s0]; decide), if_pos (Or.inl s0), if_pos (Or.inl s0)]
    · have ma := mL_alt hF 0
      have m2 := mL_le hF 0
      have nn : ¬ (sm F (2 ^ ua) = 0 ∨ ua = 0) := fun z => z.elim s0 u0
      have IH := x13_asks_17 (ev := nI (if sm F (2 ^ ua) = 0 then 0 else aS F (2 ^ ua - 1) (2 ^ ua))) (so := nI (oS F (2 ^ ua))) (G := nI ga) (mA := mA) (mB := mB) (mM := mM) (mP := mP) (bR := bR) (bS := bS) (mU := mU) (u := u') hF hua rfl rfl (show 0 < sm F (2 ^ ua) by omega) k 99999 0 (by omega) (by omega)
      rw [if_neg nn, if_neg nn, if_neg (show ¬ nI (sm F (2 ^ ua)) ≤ 0 from nI_nle (by omega) (by omega)), gd_t _ (by decide), gd_t _ (by decide)]
      have rd : w' (0 : Int32).toNatClampNeg = nI (oI F 0 (2 ^ ua)) := k 0 (by omega)
      rw [← rd] at ma
      have go : ∀ v : Int32, v = nI (mL F (2 ^ ua) 0) → f_X13_asks_75 (fun x1 x2 a b c d e g h i j l m n o p q => f_X13_asks_17 99999 x1 x2 a b c d e g h i j l m n o p q) (-2) 0 v (-2) (nI (if sm F (2 ^ ua) = 0 then 0 else aS F (2 ^ ua - 1) (2 ^ ua))) (nI (sm F (2 ^ ua))) (nI (oS F (2 ^ ua))) (nI ga) (nI ua) mA mB mM mP bR bS mU u' w' = some (nI (bQ F (2 ^ ua) (ua - 1)), nI (mL F (2 ^ ua) (bQ F (2 ^ ua) (ua - 1))), nI (if sm F (2 ^ ua) = 0 then 0 else aS F (2 ^ ua - 1) (2 ^ ua)), nI (sm F (2 ^ ua)), nI (oS F (2 ^ ua)), u', w') := fun v hv => by
        subst hv
        rw [f_X13_asks_75, if_pos rfl, f_X13_asks_93, f_X13_asks_100]
        exact IH
      dsimp only
      by_cases z : w' (0 : Int32).toNatClampNeg ≤ nI (sm F (2 ^ ua)) - w' (0 : Int32).toNatClampNeg
      · rw [if_pos z] at ma ⊢
        rw [gd_t _ (by decide)]
        exact go _ ma
      · rw [if_neg z] at ma ⊢
        rw [gd_t _ (by decide)]
        exact go _ ma
theorem q_ask {c ua ga : Nat} {SL SR bS bR uS uP mU mP aS' aD aL mA mB mM : Nat → Int32} (h : LB c ua ga SL SR bS bR uS uP mU mP aS' aD aL mA mB mM) (t al ev fn so a b d : Int32) (u w : Nat → Int32) : ∃ (x y al' ev' fn' so' : Int32) (u' w' : Nat → Int32), y ≠ 4 ∧ f_X11_ask t (nI ga) 1 (nI ua) aD aL aS' SL SR uP uS = some (x, y) ∧ f_X13_ask al ev fn so a b d (nI ga) (nI ua) mA mB mM mP bR bS mU u w = some (x, al', ev', fn', so', 0, y, -1, u', w') := by
  obtain ⟨F, hF, h1, h2⟩ := q_F h
  obtain ⟨ev', fn', so', u', w', e⟩ := x13_asks (al := al) (ev := ev) (fn := fn) (so := so) hF h.2.1 h2 u w
  refine ⟨if sm F (2 ^ ua) = 0 ∨ ua = 0 then -2 else nI (bQ F (2 ^ ua) (ua - 1)), 0, if sm F (2 ^ ua) = 0 ∨ ua = 0 then -2 else nI (mL F (2 ^ ua) (bQ F (2 ^ ua) (ua - 1))), ev', fn', so', u', w', by decide, ?_, ?_⟩
  · rw [f_X11_ask, if_neg (by decide), h1, bd_s, x1_best hF h.2.1, bd_s, f_X11_granted, bd_s]
  · rw [f_X13_ask, e, bd_s, f_X13_good, bd_s]
theorem q_askLeaves {c ua ga : Nat} {SL SR bS bR uS uP mU mP aS' aD aL mA mB mM : Nat → Int32} (h : LB c ua ga SL SR bS bR uS uP mU mP aS' aD aL mA mB mM) (t al ev fn so a b d : Int32) (u w : Nat → Int32) : ∃ (x y al' ev' fn' so' : Int32) (u' w' : Nat → Int32), y ≠ 4 ∧ f_X11_askLeaves t (nI ga) 1 (nI ua) aD aL aS' SL SR uP uS = some (x, y) ∧ f_X13_askLeaves al ev fn so a b d (nI ga) (nI ua) mA mB mM mP bR bS mU u w = some (x, al', ev', fn', so', 0, y, -1, u', w') := by
  obtain ⟨F, hF, h1, h2⟩ := q_F h
  obtain ⟨ev', fn', so', u', w', e⟩ := x13_asks (al := al) (ev := ev) (fn := fn) (so := so) hF h.2.1 h2 u w
  have lb := bQ_le F (2 ^ ua) (ua - 1)
  have hu := h.2.1
  refine ⟨if sm F (2 ^ ua) = 0 ∨ ua = 0 then -2 else nI (mL F (2 ^ ua) (bQ F (2 ^ ua) (ua - 1))), 0, if sm F (2 ^ ua) = 0 ∨ ua = 0 then -2 else nI (mL F (2 ^ ua) (bQ F (2 ^ ua) (ua - 1))), ev', fn', so', u', w', by decide, ?_, ?_⟩
  · rw [f_X11_askLeaves, if_neg (by decide), h1, bd_s, x1_best hF h.2.1, bd_s]
    by_cases z : sm F (2 ^ ua) = 0 ∨ ua = 0
    · rw [if_pos z, if_pos z, if_neg (by decide), f_X11_askLeaves_52, f_X11_granted, bd_s]
    · have ua0 : ua ≠ 0 := fun y => z (Or.inr y)
      rw [if_neg z, if_neg z, if_pos (nI_pos' (by omega)), x1_most hF (by omega), bd_s, f_X11_askLeaves_52, f_X11_granted, bd_s]
  · rw [f_X13_askLeaves, e, bd_s, f_X13_good, bd_s]
