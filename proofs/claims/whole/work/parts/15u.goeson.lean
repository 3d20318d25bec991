/-! BOTH PROGRAMS GO ON -/
/-- the token in the hands of both programs; q: where each reads on -/
def TK (tb : Nat → Int32) (B n : Nat) (C : Int32 × Int32 × Int32 × Int32 × Int32 × Int64) (M : Int32 × Int32 × Int32 × Int32 × Int32 × Int32 × Int32 × Int64) (q : Nat) : Prop :=
  ∃ p : Nat, C.2.2.2.1 = nI p ∧ M.2.2.2.1 = nI p ∧
    ((C.1 = 4 ∧ M.2.2.2.2.2.1 = 0) ∨
     ((p ≤ q ∧ B ≤ q) ∧ q ≤ n ∧ C.2.2.1 = nI q ∧ M.2.2.2.2.2.2.1 = nI q ∧
       ((C.1 = 0 ∧ M.2.2.2.2.2.1 = 1) ∨
        (p < q ∧
          ((C.1 = 1 ∧ M.2.2.2.2.2.1 = 2 ∧ q - p ≤ 12 ∧ C.2.1 = nI (q - p) ∧ M.2.1 = nI (q - p) ∧ C.2.2.2.2.2 = M.2.2.2.2.2.2.2 ∧ M.1 = nI (Rk tb p (q - p)) ∧ M.2.2.2.2.1 = nI (Rb tb p (q - p))) ∨
           (C.1 = 2 ∧ M.2.2.2.2.2.1 = 3 ∧ ∃ v : Nat, v < 1000 ∧ C.2.2.2.2.1 = nI v ∧ M.2.2.1 = nI v) ∨
           (C.1 = 3 ∧ M.2.2.2.2.2.1 = 4 ∧ C.2.2.2.2.1 = M.2.2.1 ∧ (M.2.2.1 = 59 ∨ M.2.2.1 = 45) ∧ B < q))))))
theorem n10 : ¬ (1 : Int32) = 0 := by decide
theorem z00 : (0 : Int32) = 0 := rfl
theorem adv_l {tb mt : Nat → Int32} {n B : Nat} (hn : n ≤ 500) (h : ∀ i, i < n → tb i = mt i) : ∀ (f q : Nat) (ck cl cp cv : Int32) (cw : Int64) (mr ml mn mp mb ms : Int32) (mw : Int64), B ≤ q → q ≤ n → n - q < f → ∃ (C : Int32 × Int32 × Int32 × Int32 × Int32 × Int64) (M : Int32 × Int32 × Int32 × Int32 × Int32 × Int32 × Int32 × Int64) (q' : Nat), q ≤ q' ∧ f_X7_advance_0 f (nI n) ck cl (nI q) cp cv cw tb = some C ∧ f_X13_goesOn_9 f mr ml mn mp mb (nI n) ms (nI q) mw mt = some M ∧ TK tb B n C M q'
  | 0, _, _, _, _, _, _, _, _, _, _, _, _, _, _, _, h => absurd h (Nat.not_lt_zero _)
  | f + 1, q, ck, cl, cp, cv, cw, mr, ml, mn, mp, mb, ms, mw, hB, hq, hf => by
    have bl := bN_lt tb q
    rw [f_X7_advance_0, f_X13_goesOn_9]
    by_cases e : n ≤ q
    · have m1 : f_X13_byteAt (nI q) (nI n) mt = some (-1) := by rw [x13_byteAt hn h hq, if_neg (show ¬ q < n by omega)]
      refine ⟨(0, nI q - nI q, nI q, nI q, 0, 0), (mr, ml, mn, nI q, mb, 1, nI q, mw), q, Nat.le_refl _, ?_, ?_, q, rfl, rfl, Or.inr ⟨⟨Nat.le_refl _, hB⟩, hq, rfl, rfl, Or.inl ⟨rfl, rfl⟩⟩⟩
      · rw [if_pos (nI_le e (by omega)), f_X7_advance_40, if_neg (nI_nlt e (by omega)), f_X7_advance_177, lt_q]
      · rw [m1, bd_s, if_neg (show ¬ (-1 : Int32) = 32 by decide), bd_s, if_pos rfl]
    · have lt : q < n := by omega
      have m1 : f_X13_byteAt (nI q) (nI n) mt = some (nI (bN tb q)) := by rw [x13_byteAt hn h hq, if_pos lt]
      have c1 : f_X10_byteAt (nI q) tb = some (nI (bN tb q)) := by rw [x10_byteAt (by omega), show bC tb q = bN tb q from if_pos (by omega)]
      rw [if_neg (nI_ge lt (by omega)), c1, m1, bd_s, bd_s]
      by_cases s : bN tb q = 32
      · have s' : nI (bN tb q) = (32 : Int32) := by rw [s]; rfl
        rw [if_pos s', if_pos s', lt_q, lt_q, nI_1]
        obtain ⟨C, M, q', a, b, c, d⟩ := adv_l (B := B) hn h f (q + 1) ck cl cp cv cw mr ml mn mp mb ms mw (by omega) (by omega) (by omega)
        exact ⟨C, M, q', by omega, b, c, d⟩
      · have s' : ¬ nI (bN tb q) = (32 : Int32) := fun z => s ((nI_eq (b := 32) (by omega) (by omega)).mp z)
        rw [if_neg s', if_neg s', bd_s, f_X7_advance_40, if_pos (nI_lt lt (by omega)), c1, bd_s, if_neg (nI_neg1 (by omega)), x7_isLetter bl, x13_isLetter bl]
        repeat rw [bd_s]
        by_cases l : isL (bN tb q) = true
        · obtain ⟨L, mw', mb2, a1, a2, a3, a4, a5, a6⟩ := word_l (p := q) (kd := ck) (so := 0) hn h kFU 0 0 0 (by omega) (by unfold kFU; omega) (fun _ => ⟨rfl, rfl⟩)
          have L1 : 0 + 1 ≤ L := a4 (by omega) l
          have eL : q + L - q = L := by omega
          have a5' : f_X7_advanceWord_12 kFU (nI (bC tb q)) (nI n) ck (nI q) (nI q) 0 tb = some (if 12 < L then 4 else 1, nI (q + L), Wd tb q L) := a5
          have a6' : f_X13_wordGoesBy_20 kFU 1 0 0 (nI n) 0 (nI q) 0 mt = some (nI (Rk tb q L), nI L, mb2, if 12 < L then 0 else 2, nI (q + L), mw') := a6
          rw [if_pos l, if_neg n10, if_neg n10, f_X7_advanceWord, x10_byteAt (by omega), bd_s, a5', bd_s, f_X7_advance_177, lt_q, f_X13_wordGoesBy, a6', bd_s]
          refine ⟨_, _, q + L, by omega, rfl, rfl, q, rfl, rfl, ?_⟩
          by_cases c : 12 < L
          · exact Or.inl ⟨if_pos c, if_pos c⟩
          · have a3' := a3 (by omega)
            exact Or.inr ⟨⟨by omega, by omega⟩, a2, rfl, rfl, Or.inr ⟨by omega, Or.inl ⟨if_neg c, if_neg c, by omega, pk_sub (by omega), congrArg nI eL.symm, a3'.1.symm, by rw [eL], by rw [eL]; exact a3'.2⟩⟩⟩
        · rw [if_neg l, if_pos z00, if_pos z00, x7_isDigit bl, x13_isDigit bl]
          repeat rw [bd_s]
          by_cases d : isD (bN tb q) = true
          · obtain ⟨L, cv', mv', a1, a2, a3, a4, a5, a6, a7⟩ := whole_l (p := q) (kd := ck) (r1 := mr) (r2 := ml) (r3 := nI q) (r4 := mb) (so := 0) (mw := mw) hn h kFU 0 0 0 (by omega) (by unfold kFU; omega) (fun j hj => absurd hj (Nat.not_lt_zero _)) (fun _ => ⟨rfl, rfl⟩)
            have L1 : 0 + 1 ≤ L := a5 (by omega) d
            have a6' : f_X7_advanceWhole_12 kFU (nI (bC tb q)) (nI n) ck (nI q) (nI q) 0 tb = some (if 3 < L then 4 else 2, nI (q + L), cv') := a6
            have a7' : f_X13_goesOn_98 kFU 0 mr ml 0 (nI q) mb (nI n) 0 (nI q) mw mt = some (mr, ml, mv', nI q, mb, if 3 < L then 0 else 3, nI (q + L), mw) := a7
            rw [if_pos d, if_neg n10, if_neg n10, f_X7_advanceWhole, x10_byteAt (by omega), bd_s, a6', bd_s, f_X7_advance_177, lt_q, a7']
            refine ⟨_, _, q + L, by omega, rfl, rfl, q, rfl, rfl, ?_⟩
            by_cases c : 3 < L
            · exact Or.inl ⟨if_pos c, if_pos c⟩
            · have v1 := Vd_lt L a3
              have v2 : 10 ^ L ≤ 10 ^ 3 := Nat.pow_le_pow_right (by decide) (by omega)
              obtain ⟨b1, b2⟩ := a4 (by omega)
              exact Or.inr ⟨⟨by omega, by omega⟩, a2, rfl, rfl, Or.inr ⟨by omega, Or.inr (Or.inl ⟨if_neg c, if_neg c, Vd tb q L, by omega, b1, b2⟩)⟩⟩
          · rw [if_neg d, if_pos z00, if_pos z00]
            by_cases s59 : nI (bN tb q) = (59 : Int32)
            · rw [if_pos s59, if_pos s59, f_X7_advance_159, f_X7_advance_164, lt_q, f_X7_advance_177, lt_q, f_X13_goesOn_181, lt_q, nI_1]
              exact ⟨_, _, q + 1, by omega, rfl, rfl, q, rfl, rfl, Or.inr ⟨⟨by omega, by omega⟩, lt, rfl, rfl, Or.inr ⟨by omega, Or.inr (Or.inr ⟨rfl, rfl, rfl, Or.inl s59, by omega⟩)⟩⟩⟩
            · rw [if_neg s59, if_neg s59]
              by_cases s45 : nI (bN tb q) = (45 : Int32)
              · rw [if_pos s45, if_pos s45, f_X7_advance_159, f_X7_advance_164, lt_q, f_X7_advance_177, lt_q, f_X13_goesOn_181, lt_q, nI_1]
                exact ⟨_, _, q + 1, by omega, rfl, rfl, q, rfl, rfl, Or.inr ⟨⟨by omega, by omega⟩, lt, rfl, rfl, Or.inr ⟨by omega, Or.inr (Or.inr ⟨rfl, rfl, rfl, Or.inr s45, by omega⟩)⟩⟩⟩
              · rw [if_neg s45, if_neg s45, f_X7_advance_164, lt_q, f_X7_advance_177, lt_q]
                exact ⟨_, _, q, Nat.le_refl _, rfl, rfl, q, rfl, rfl, Or.inl ⟨rfl, rfl⟩⟩
theorem adv_0 {tb mt : Nat → Int32} {n q B : Nat} (hn : n ≤ 500) (h : ∀ i, i < n → tb i = mt i) (hB : B ≤ q) (hq : q ≤ n) (ck cl cp cv : Int32) (cw : Int64) (mr ml mn mp mb ms : Int32) (mw : Int64) (hs : ¬ ms = 5) : ∃ (C : Int32 × Int32 × Int32 × Int32 × Int32 × Int64) (M : Int32 × Int32 × Int32 × Int32 × Int32 × Int32 × Int32 × Int64) (q' : Nat), q ≤ q' ∧ f_X7_advance (nI n) ck cl (nI q) cp cv cw tb = some C ∧ f_X13_goesOn mr ml mn mp mb (nI n) ms (nI q) mw mt = some M ∧ TK tb B n C M q' := by
  rw [f_X7_advance, f_X13_goesOn, if_neg hs]
  exact adv_l hn h kFU q ck cl cp cv cw mr ml mn mp mb ms mw hB hq (by unfold kFU; omega)
theorem TK_s {tb : Nat → Int32} {n B : Nat} {C : Int32 × Int32 × Int32 × Int32 × Int32 × Int64} {M : Int32 × Int32 × Int32 × Int32 × Int32 × Int32 × Int32 × Int64} {q : Nat} (k : TK tb B n C M q) : ¬ M.2.2.2.2.2.1 = 5 ∧ C.2.2.2.1 = M.2.2.2.1 := by
  obtain ⟨p, cp, mp, o⟩ := k
  refine ⟨?_, cp.trans mp.symm⟩
  rcases o with ⟨-, m⟩ | ⟨-, -, -, -, ⟨-, m⟩ | ⟨-, ⟨-, m, -⟩ | ⟨-, m, -⟩ | ⟨-, m, -⟩⟩⟩ <;> rw [m] <;> decide
theorem adv {tb mt : Nat → Int32} {n B : Nat} (hn : n ≤ 500) (h : ∀ i, i < n → tb i = mt i) {C : Int32 × Int32 × Int32 × Int32 × Int32 × Int64} {M : Int32 × Int32 × Int32 × Int32 × Int32 × Int32 × Int32 × Int64} {q : Nat} (k : TK tb B n C M q) (c4 : ¬ C.1 = 4) : q ≤ n ∧ ∃ (C' : Int32 × Int32 × Int32 × Int32 × Int32 × Int64) (M' : Int32 × Int32 × Int32 × Int32 × Int32 × Int32 × Int32 × Int64) (q' : Nat), q ≤ q' ∧ f_X7_advance (nI n) C.1 C.2.1 C.2.2.1 C.2.2.2.1 C.2.2.2.2.1 C.2.2.2.2.2 tb = some C' ∧ f_X13_goesOn M.1 M.2.1 M.2.2.1 M.2.2.2.1 M.2.2.2.2.1 (nI n) M.2.2.2.2.2.1 M.2.2.2.2.2.2.1 M.2.2.2.2.2.2.2 mt = some M' ∧ TK tb B n C' M' q' := by
  have hs := (TK_s k).1
  obtain ⟨p, cp, mp, o⟩ := k
  rcases o with ⟨c, -⟩ | ⟨⟨-, hB⟩, hq, cn, mn, -⟩
  · exact absurd c c4
  · rw [cn, mn]
    exact ⟨hq, adv_0 hn h hB hq _ _ _ _ _ _ _ _ _ _ _ _ hs⟩
theorem TK_B {tb : Nat → Int32} {n B : Nat} {C : Int32 × Int32 × Int32 × Int32 × Int32 × Int64} {M : Int32 × Int32 × Int32 × Int32 × Int32 × Int32 × Int32 × Int64} {q : Nat} (k : TK tb B n C M q) (h4 : ¬ M.2.2.2.2.2.1 = 4) : TK tb q n C M q := by
  obtain ⟨p, cp, mp, o⟩ := k
  refine ⟨p, cp, mp, ?_⟩
  rcases o with o | ⟨⟨a, -⟩, b, c, d, o | ⟨e, o | o | ⟨_, m, _⟩⟩⟩
  · exact Or.inl o
  · exact Or.inr ⟨⟨a, Nat.le_refl _⟩, b, c, d, Or.inl o⟩
  · exact Or.inr ⟨⟨a, Nat.le_refl _⟩, b, c, d, Or.inr ⟨e, Or.inl o⟩⟩
  · exact Or.inr ⟨⟨a, Nat.le_refl _⟩, b, c, d, Or.inr ⟨e, Or.inr (Or.inl o)⟩⟩
  · exact absurd m h4
