/-! RELAX -/
theorem q_rlx {n : Nat} {a b c : Int32} {V : Nat → Int32} (h1 : 1 ≤ n) (h2 : n ≤ 12) (ha : ib a 99) (hb : ib b 99) (hc : ib c 99) : ∀ (f g r j : Nat), r < 2 ^ n → (eE n r a b c).toInt + 2 * (j : Int) ≤ 3564 → 4096 - j < f → 4096 - j < g →
    ∃ x y : Int32, f_X5_settle_13 f (nI n) (nI j) a b c (nI r) (nI j) = some (x, y) ∧ f_X13_relaxing_30 g (nI n) (nI r) (nI (rF n r (rWk n r a b c (n - 1)))) (nI j) a b c V = some (x, y)
  | 0, _, _, _, _, _, hf, _ => absurd hf (Nat.not_lt_zero _)
  | _ + 1, 0, _, _, _, _, _, hg => absurd hg (Nat.not_lt_zero _)
  | f + 1, g + 1, r, j, hr, hE, hf, hg => by
    have bE := (eE_ib (r := r) h2 ha hb hc).1
    have lw := rWk_le n r a b c (n - 1)
    have hs := rF_lt (k := rWk n r a b c (n - 1)) h1 hr
    unfold ib at bE
    have hj : j ≤ 3564 := by omega
    have xs : nI r ^^^ nI (2 ^ (n - 1 - rWk n r a b c (n - 1))) = nI (rF n r (rWk n r a b c (n - 1))) := nI_xor _ _
    rw [f_X5_settle_13, f_X13_relaxing_30, if_neg (show ¬ (4096 : Int32) ≤ nI j from fun z => by have := (nI_leI (a := 4096) (by omega) (by omega)).mp z; omega), x4_weakest h1 h2 hr, bd_s, x8_bit h2 (by omega), bd_s, lt_q, xs, x4_energyOf h1 h2 hs, bd_s, x4_energyOf h1 h2 hr, bd_s, x13_energyOf h1 h2 hs, bd_s, x13_energyOf h1 h2 hr, bd_s]
    by_cases q : eE n (rF n r (rWk n r a b c (n - 1))) a b c < eE n r a b c
    · obtain ⟨z, hz⟩ := eE_par (r := rF n r (rWk n r a b c (n - 1))) (r' := r) h2 ha hb hc
      rw [if_pos q, if_neg (fun y => by rw [Int32.lt_iff_toInt_lt] at q; rw [Int32.le_iff_toInt_le] at y; omega), lt_q, lt_q, x13_weakest h1 h2 hs, bd_s, x13_slipped h2 (by have := rWk_le n (rF n r (rWk n r a b c (n - 1))) a b c (n - 1); omega), bd_s, nI_1]
      rw [Int32.lt_iff_toInt_lt] at q
      exact q_rlx h1 h2 ha hb hc f g _ (j + 1) hs (by omega) (by omega) (by omega)
    · rw [if_neg q, if_pos (by rw [Int32.le_iff_toInt_le]; rw [Int32.lt_iff_toInt_lt] at q; omega)]
      exact ⟨_, _, rfl, rfl⟩
theorem q_rl {n r : Nat} {a b c p u v : Int32} {V : Nat → Int32} (h1 : 1 ≤ n) (h2 : n ≤ 12) (hr : r < 2 ^ n) (ha : ib a 99) (hb : ib b 99) (hc : ib c 99) (e5 : f_X13_row p V = some (nI r)) (e6 : f_X13_steps p V = some (nI n)) (w : Int32) : ∃ x y : Int32, f_X5_settle (nI r) (nI n) a b c u v = some (x, y) ∧ f_X13_relaxing p w a b c V = some (x, y) := by
  have bE := (eE_ib (r := r) h2 ha hb hc).1
  have lw := rWk_le n r a b c (n - 1)
  unfold ib at bE
  obtain ⟨x, y, r1, r2⟩ := q_rlx (V := V) h1 h2 ha hb hc kFU kFU r 0 hr (by omega) (by unfold kFU; omega) (by unfold kFU; omega)
  refine ⟨x, y, r1, ?_⟩
  rw [f_X13_relaxing, e6, bd_s, e5, bd_s, x13_weakest h1 h2 hr, bd_s, x13_slipped h2 (by omega), bd_s]
  exact r2
theorem q_relax {c : Nat} {L R V : Nat → Int32} (h : SV c L R V) (p t u v w a b d e1' e2' e3' : Int32) (ha : ib e1' 99) (hb : ib e2' 99) (hc : ib e3' 99) : ∃ x y u' v' w' : Int32, y ≠ 4 ∧ f_X11_relax p t u v (nI c) e1' e2' e3' L R = some (x, y, u', v') ∧ f_X13_relax p w a b d e1' e2' (nI c) e3' V = some (x, w', 0, y, -1) := by
  rcases q_sv h p with ⟨s, n, r, hs, hs5, h1, h2, hr, -, -, -, e1, e2, e3, e4, e5, e6⟩ | ⟨e1, e2⟩
  · obtain ⟨x, y, r1, r2⟩ := q_rl (u := u) (v := v) (show 1 ≤ n by omega) h2 hr ha hb hc e5 e6 w
    refine ⟨y, 0, x, y, y, by decide, ?_, ?_⟩
    · simp only [f_X11_relax, e1, e3, e4, bd_s, if_true, r1, f_X11_granted]
    · simp only [f_X13_relax, e2, bd_s, i10, if_false, r2, f_X13_good]
  · refine ⟨-1, 1, u, v, w, by decide, ?_, ?_⟩
    · simp only [f_X11_relax, e1, bd_s, i10, if_false, f_X11_refused]
    · simp only [f_X13_relax, e2, bd_s, if_true, f_X13_refused]
theorem q_relaxed {c : Nat} {L R V : Nat → Int32} (h : SV c L R V) (p t u v w a b d e1' e2' e3' : Int32) (ha : ib e1' 99) (hb : ib e2' 99) (hc : ib e3' 99) : ∃ x y u' v' w' : Int32, y ≠ 4 ∧ f_X11_relaxed p t u v (nI c) e1' e2' e3' L R = some (x, y, u', v') ∧ f_X13_relaxed p w a b d e1' e2' (nI c) e3' V = some (x, w', 0, y, -1) := by
  rcases q_sv h p with ⟨s, n, r, hs, hs5, h1, h2, hr, -, -, -, e1, e2, e3, e4, e5, e6⟩ | ⟨e1, e2⟩
  · obtain ⟨x, y, r1, r2⟩ := q_rl (u := u) (v := v) (show 1 ≤ n by omega) h2 hr ha hb hc e5 e6 w
    refine ⟨x, 0, x, y, y, by decide, ?_, ?_⟩
    · simp only [f_X11_relaxed, e1, e3, e4, bd_s, if_true, r1, f_X11_granted]
    · simp only [f_X13_relaxed, e2, bd_s, i10, if_false, r2, f_X13_good]
  · refine ⟨-1, 1, u, v, w, by decide, ?_, ?_⟩
    · simp only [f_X11_relaxed, e1, bd_s, i10, if_false, f_X11_refused]
    · simp only [f_X13_relaxed, e2, bd_s, if_true, f_X13_refused]
