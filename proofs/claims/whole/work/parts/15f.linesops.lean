/-! THE CALLS OF LINES -/
def lnO (n r l : Nat) : Int32 := match f_X6_goesOut (nI r) (nI n) (nI l) (fun _ => 0) (fun _ => 0) with
  | some t => t.1
  | none => 0
theorem lines_both {n r l : Nat} (h1 : 1 ≤ n) (h2 : n ≤ 12) (hr : r < 2 ^ n) (hl : l < rRep n r) : (lnO n r l = 0 ∨ lnO n r l = 1) ∧ (∀ c s, ∃ c' s', f_X6_goesOut (nI r) (nI n) (nI l) c s = some (lnO n r l, c', s')) ∧
    ∀ u less w : Nat → Int32, (∀ j, j < rRep n r → u j = nI (rLt n r j)) → ∃ l' w', f_X13_isOut (nI (rRep n r)) (nI l) less u w = some (lnO n r l, l', w') := by
  obtain ⟨b0, c0, s0, l0, w0, z, e1, e2⟩ := lines_pair (u := fun j => nI (rLt n r j)) h1 h2 hr hl (fun _ _ => rfl) (fun _ => 0) (fun _ => 0) (fun _ => 0) (fun _ => 0)
  have eb : lnO n r l = b0 := by unfold lnO; rw [e1]
  rw [eb]
  refine ⟨z, fun c s => ?_, fun u less w hu => ?_⟩
  · obtain ⟨b1, c1, s1, l1, w1, -, g1, g2⟩ := lines_pair (u := fun j => nI (rLt n r j)) h1 h2 hr hl (fun _ _ => rfl) c s (fun _ => 0) (fun _ => 0)
    have : b1 = b0 := by rw [e2] at g2; exact (Prod.mk.inj (Option.some.inj g2)).1.symm
    rw [← this]
    exact ⟨c1, s1, g1⟩
  · obtain ⟨b1, c1, s1, l1, w1, -, g1, g2⟩ := lines_pair h1 h2 hr hl hu (fun _ => 0) (fun _ => 0) less w
    have : b1 = b0 := by rw [e1] at g1; exact (Prod.mk.inj (Option.some.inj g1)).1.symm
    rw [← this]
    exact ⟨l1, w1, g2⟩
theorem q_out {c : Nat} {L R V : Nat → Int32} (h : SV c L R V) (p w t a b d : Int32) (c0 s0 l0 u0 w0 : Nat → Int32) : ∃ (x y : Int32) (c1 s1 l1 u1 w1 : Nat → Int32), y ≠ 4 ∧ f_X11_out p w t (nI c) c0 s0 L R = some (x, y, c1, s1) ∧ f_X13_out p w a b d (nI c) l0 u0 w0 V = some (x, 0, y, -1, l1, u1, w1) := by
  rcases q_sv h p with ⟨s, n, r, hs, hs5, h1, h2, hr, -, -, -, e1, e2, e3, e4, e5, e6⟩ | ⟨e1, e2⟩
  · have h1' : 1 ≤ n := by omega
    have lr := rRep_le (n := n) (r := r) h2
    have rp := rRep_pos (n := n) (r := r) h1'
    obtain ⟨u1, k1, k2⟩ := x13_lays h1' h2 hr u0
    rcases q_in 0 (rRep n r - 1) 0 (nI (rRep n r) - 1) (nI (rRep n r)) rfl (nI_m1 rp) (by rw [Nat.sub_add_cancel rp]) (by omega) (by omega) w with ⟨k, -, hk, rfl, g1, -, -, g2, -, e7⟩ | ⟨g, e7⟩
    · obtain ⟨z, y1, y2⟩ := lines_both h1' h2 hr (show k < rRep n r by omega)
      obtain ⟨c1, s1, m1⟩ := y1 c0 s0
      obtain ⟨l1, w1, m2⟩ := y2 u1 l0 w0 k2
      rcases z with z | z
      · rw [z] at m1 m2
        exact ⟨0, 0, c1, s1, l1, u1, w1, by decide, by simp only [f_X11_out, e1, e3, e4, bd_s, if_true, if_false, g1, g2, x8_repeats h1' h2 hr, m1, f_X11_out_75, f_X11_granted], by simp only [f_X13_out, e2, e5, e6, e7, k1, m2, bd_s, i10, if_true, if_false, f_X13_out_66, f_X13_good]⟩
      · rw [z] at m1 m2
        exact ⟨1, 0, c1, s1, l1, u1, w1, by decide, by simp only [f_X11_out, e1, e3, e4, bd_s, if_true, if_false, g1, g2, x8_repeats h1' h2 hr, m1, i10, f_X11_out_75, f_X11_granted], by simp only [f_X13_out, e2, e5, e6, e7, k1, m2, bd_s, i10, if_false, f_X13_out_66, f_X13_good]⟩
    · refine ⟨-1, 2, c0, s0, l0, u1, w0, by decide, ?_, ?_⟩
      · rcases g with g | ⟨g, -, -, g', -⟩
        · simp only [f_X11_out, e1, e3, e4, bd_s, if_true, g, f_X11_out_48, f_X11_refused]
        · simp only [f_X11_out, e1, e3, e4, bd_s, if_true, g, g', x8_repeats h1' h2 hr, if_false, f_X11_out_48, f_X11_refused]
      · simp only [f_X13_out, e2, e5, e6, e7, k1, bd_s, i10, if_false, if_true, f_X13_refused]
  · refine ⟨-1, 1, c0, s0, l0, u0, w0, by decide, ?_, ?_⟩
    · simp only [f_X11_out, e1, bd_s, i10, if_false, f_X11_refused]
    · simp only [f_X13_out, e2, bd_s, if_true, f_X13_refused]
theorem q_outs_l {n r : Nat} {L R V u : Nat → Int32} (h1 : 1 ≤ n) (h2 : n ≤ 12) (hr : r < 2 ^ n) (hu : ∀ j, j < rRep n r → u j = nI (rLt n r j)) (t C a b d : Int32) : ∀ (f g k : Nat) (S : Int32) (c0 s0 l0 w0 : Nat → Int32), k ≤ rRep n r → rRep n r - k < f → rRep n r - k < g →
    ∃ (x : Int32) (c1 s1 l1 w1 : Nat → Int32), f_X11_outs_39 f (nI r) (nI n) S (nI k) t C c0 s0 L R = some (x, 0, c1, s1) ∧ f_X13_outs_39 g (nI (rRep n r)) S (nI k) a b d C l0 u w0 V = some (x, a, 0, -1, l1, u, w1)
  | 0, _, _, _, _, _, _, _, _, hf, _ => absurd hf (Nat.not_lt_zero _)
  | _ + 1, 0, _, _, _, _, _, _, _, _, hg => absurd hg (Nat.not_lt_zero _)
  | f + 1, g + 1, k, S, c0, s0, l0, w0, hk, hf, hg => by
    have lr := rRep_le (n := n) (r := r) h2
    rw [f_X11_outs_39, f_X13_outs_39, x8_repeats h1 h2 hr, bd_s]
    by_cases q : rRep n r ≤ k
    · have z := (nI_leI (a := rRep n r) (b := k) (by omega) (by omega)).mpr q
      rw [if_pos z, if_pos z]
      exact ⟨S, c0, s0, l0, w0, rfl, rfl⟩
    · have z : ¬ nI (rRep n r) ≤ nI k := fun z => q ((nI_leI (by omega) (by omega)).mp z)
      obtain ⟨zz, y1, y2⟩ := lines_both h1 h2 hr (show k < rRep n r by omega)
      obtain ⟨c1, s1, m1⟩ := y1 c0 s0
      obtain ⟨l1, w1, m2⟩ := y2 u l0 w0 hu
      rw [if_neg z, if_neg z, m1, m2, bd_s, bd_s]
      rcases zz with e | e
      · simp only [e, if_true, f_X11_outs_70, f_X13_outs_61, lt_q, nI_1]
        exact q_outs_l h1 h2 hr hu t C a b d f g (k + 1) _ c1 s1 l1 w1 (by omega) (by omega) (by omega)
      · simp only [e, i10, if_false, f_X11_outs_70, f_X13_outs_61, lt_q, nI_1]
        exact q_outs_l h1 h2 hr hu t C a b d f g (k + 1) _ c1 s1 l1 w1 (by omega) (by omega) (by omega)
theorem q_outs {c : Nat} {L R V : Nat → Int32} (h : SV c L R V) (p t a b d : Int32) (c0 s0 l0 u0 w0 : Nat → Int32) : ∃ (x y : Int32) (c1 s1 l1 u1 w1 : Nat → Int32), y ≠ 4 ∧ f_X11_outs p t (nI c) c0 s0 L R = some (x, y, c1, s1) ∧ f_X13_outs p a b d (nI c) l0 u0 w0 V = some (x, 0, y, -1, l1, u1, w1) := by
  rcases q_sv h p with ⟨s, n, r, hs, hs5, h1, h2, hr, -, -, -, e1, e2, e3, e4, e5, e6⟩ | ⟨e1, e2⟩
  · have h1' : 1 ≤ n := by omega
    have lr := rRep_le (n := n) (r := r) h2
    obtain ⟨u1, k1, k2⟩ := x13_lays h1' h2 hr u0
    obtain ⟨x, c1, s1, l1, w1, r1, r2⟩ := q_outs_l (L := L) (R := R) (V := V) h1' h2 hr k2 t (nI c) 0 b d kFU kFU 0 0 c0 s0 l0 w0 (Nat.zero_le _) (by unfold kFU; omega) (by unfold kFU; omega)
    refine ⟨x, 0, c1, s1, l1, u1, w1, by decide, ?_, ?_⟩
    · simp only [f_X11_outs, e1, e3, e4, bd_s, if_true]
      exact r1
    · simp only [f_X13_outs, e2, e5, e6, k1, bd_s, i10, if_false]
      exact r2
  · refine ⟨-1, 1, c0, s0, l0, u0, w0, by decide, ?_, ?_⟩
    · simp only [f_X11_outs, e1, bd_s, i10, if_false, f_X11_refused]
    · simp only [f_X13_outs, e2, bd_s, if_true, f_X13_refused]
theorem q_first_l {n r : Nat} {L R V u : Nat → Int32} (h1 : 1 ≤ n) (h2 : n ≤ 12) (hr : r < 2 ^ n) (hu : ∀ j, j < rRep n r → u j = nI (rLt n r j)) (t C a b d : Int32) : ∀ (f g k : Nat) (c0 s0 l0 w0 : Nat → Int32), k ≤ rRep n r → rRep n r - k < f → rRep n r - k < g →
    ∃ (x : Int32) (c1 s1 l1 w1 : Nat → Int32), f_X11_firstLine_36 f (nI r) (nI n) (nI k) t C c0 s0 L R = some (x, 0, c1, s1) ∧ f_X13_firstLine_36 g (nI (rRep n r)) (nI k) a b d C l0 u w0 V = some (x, a, 0, -1, l1, u, w1)
  | 0, _, _, _, _, _, _, _, hf, _ => absurd hf (Nat.not_lt_zero _)
  | _ + 1, 0, _, _, _, _, _, _, _, hg => absurd hg (Nat.not_lt_zero _)
  | f + 1, g + 1, k, c0, s0, l0, w0, hk, hf, hg => by
    have lr := rRep_le (n := n) (r := r) h2
    rw [f_X11_firstLine_36, f_X13_firstLine_36, x8_repeats h1 h2 hr, bd_s]
    by_cases q : rRep n r ≤ k
    · have z := (nI_leI (a := rRep n r) (b := k) (by omega) (by omega)).mpr q
      rw [if_pos z, if_pos z]
      exact ⟨-2, c0, s0, l0, w0, rfl, rfl⟩
    · have z : ¬ nI (rRep n r) ≤ nI k := fun z => q ((nI_leI (by omega) (by omega)).mp z)
      obtain ⟨zz, y1, y2⟩ := lines_both h1 h2 hr (show k < rRep n r by omega)
      obtain ⟨c1, s1, m1⟩ := y1 c0 s0
      obtain ⟨l1, w1, m2⟩ := y2 u l0 w0 hu
      rw [if_neg z, if_neg z, m1, m2, bd_s, bd_s]
      rcases zz with e | e
      · simp only [e, if_true]
        exact ⟨nI k, c1, s1, l1, w1, rfl, rfl⟩
      · simp only [e, i10, if_false, nI_1]
        exact q_first_l h1 h2 hr hu t C a b d f g (k + 1) c1 s1 l1 w1 (by omega) (by omega) (by omega)
theorem q_firstLine {c : Nat} {L R V : Nat → Int32} (h : SV c L R V) (p t a b d : Int32) (c0 s0 l0 u0 w0 : Nat → Int32) : ∃ (x y : Int32) (c1 s1 l1 u1 w1 : Nat → Int32), y ≠ 4 ∧ f_X11_firstLine p t (nI c) c0 s0 L R = some (x, y, c1, s1) ∧ f_X13_firstLine p a b d (nI c) l0 u0 w0 V = some (x, 0, y, -1, l1, u1, w1) := by
  rcases q_sv h p with ⟨s, n, r, hs, hs5, h1, h2, hr, -, -, -, e1, e2, e3, e4, e5, e6⟩ | ⟨e1, e2⟩
  · have h1' : 1 ≤ n := by omega
    have lr := rRep_le (n := n) (r := r) h2
    have rp := rRep_pos (n := n) (r := r) h1'
    obtain ⟨u1, k1, k2⟩ := x13_lays h1' h2 hr u0
    obtain ⟨x, c1, s1, l1, w1, r1, r2⟩ := q_first_l (L := L) (R := R) (V := V) h1' h2 hr k2 t (nI c) 0 b d kFU kFU 1 c0 s0 l0 w0 rp (by unfold kFU; omega) (by unfold kFU; omega)
    refine ⟨x, 0, c1, s1, l1, u1, w1, by decide, ?_, ?_⟩
    · simp only [f_X11_firstLine, e1, e3, e4, bd_s, if_true]
      exact r1
    · simp only [f_X13_firstLine, e2, e5, e6, k1, bd_s, i10, if_false]
      exact r2
  · refine ⟨-1, 1, c0, s0, l0, u0, w0, by decide, ?_, ?_⟩
    · simp only [f_X11_firstLine, e1, bd_s, i10, if_false, f_X11_refused]
    · simp only [f_X13_firstLine, e2, bd_s, if_true, f_X13_refused]
/-- the lines of the first k that go out, as a set -/
def lnS (n r : Nat) : Nat → Nat
  | 0 => 0
  | k + 1 => lnS n r k + (if lnO n r k = 0 then 0 else 2 ^ k)
theorem lnS_lt (n r : Nat) : ∀ k, lnS n r k < 2 ^ k
  | 0 => Nat.one_pos
  | k + 1 => by
    have h := lnS_lt n r k
    show lnS n r k + (if lnO n r k = 0 then 0 else 2 ^ k) < 2 ^ (k + 1)
    rw [Nat.pow_succ]
    split <;> omega
theorem lnS_eq {n r n' r' : Nat} : ∀ k, lnS n r k = lnS n' r' k ↔ ∀ j, j < k → (lnO n r j = 0 ↔ lnO n' r' j = 0)
  | 0 => ⟨fun _ j hj => absurd hj (Nat.not_lt_zero _), fun _ => rfl⟩
  | k + 1 => by
    have a := lnS_lt n r k
    have b := lnS_lt n' r' k
    have IH := lnS_eq (n := n) (r := r) (n' := n') (r' := r') k
    have key : lnS n r (k + 1) = lnS n' r' (k + 1) ↔ (lnS n r k = lnS n' r' k ∧ (lnO n r k = 0 ↔ lnO n' r' k = 0)) := by
      show lnS n r k + (if lnO n r k = 0 then 0 else 2 ^ k) = lnS n' r' k + (if lnO n' r' k = 0 then 0 else 2 ^ k) ↔ _
      by_cases p : lnO n r k = 0 <;> by_cases q : lnO n' r' k = 0 <;> simp only [p, q, if_true, if_false, iff_true, iff_false, true_iff, not_true, not_false_iff, and_true, and_false] <;> omega
    rw [key, IH]
    constructor
    · intro ⟨h1, h2⟩ j hj
      by_cases e : j = k
      · rw [e]; exact h2
      · exact h1 j (by omega)
    · intro h
      exact ⟨fun j hj => h j (by omega), h k (by omega)⟩
theorem lN_or (a b : Nat) : lN a ||| lN b = lN (Nat.lor a b) := Int64.toBitVec_inj.mp (by
  show BitVec.ofNat 64 a ||| BitVec.ofNat 64 b = BitVec.ofNat 64 (a ||| b)
  exact BitVec.ofNat_or.symm)
theorem ln_bit {k : Nat} (hk : k < 36) : (1 : Int64) <<< ((nI k).toInt64 &&& 63) = lN (2 ^ k) :=
  of_decide_eq_true (allB_at (N := 36) (p := fun k => decide ((1 : Int64) <<< ((nI k).toInt64 &&& 63) = lN (2 ^ k))) (by decide +kernel) k hk)
theorem ln_add {x k : Nat} (h : x < 2 ^ k) : Nat.lor x (2 ^ k) = x + 2 ^ k := by
  have e := Nat.two_pow_add_eq_or_of_lt h 1
  rw [Nat.mul_one] at e
  show x ||| 2 ^ k = _
  rw [Nat.or_comm, ← e, Nat.add_comm]
theorem x13_linesOf_20 {n r : Nat} {V u : Nat → Int32} (h1 : 1 ≤ n) (h2 : n ≤ 12) (hr : r < 2 ^ n) (hu : ∀ j, j < rRep n r → u j = nI (rLt n r j)) : ∀ (f k : Nat) (l0 w0 : Nat → Int32), k ≤ rRep n r → rRep n r - k < f →
    ∃ l1 w1 : Nat → Int32, f_X13_linesOf_20 f (nI (rRep n r)) (lN (lnS n r k)) (nI k) l0 u w0 V = some (lN (lnS n r (rRep n r)), l1, u, w1)
  | 0, _, _, _, _, h => absurd h (Nat.not_lt_zero _)
  | f + 1, k, l0, w0, hk, hf => by
    have lr := rRep_le (n := n) (r := r) h2
    rw [f_X13_linesOf_20]
    by_cases q : rRep n r ≤ k
    · rw [if_pos ((nI_leI (by omega) (by omega)).mpr q), show k = rRep n r by omega]
      exact ⟨l0, w0, rfl⟩
    · obtain ⟨zz, y1, y2⟩ := lines_both h1 h2 hr (show k < rRep n r by omega)
      obtain ⟨l1, w1, m2⟩ := y2 u l0 w0 hu
      rw [if_neg (fun z => q ((nI_leI (by omega) (by omega)).mp z)), m2, bd_s]
      have IH := x13_linesOf_20 (V := V) h1 h2 hr hu f (k + 1) l1 w1 (by omega) (by omega)
      rcases zz with e | e
      · rw [lnS, if_pos e, Nat.add_zero] at IH
        simp only [e, if_true, f_X13_linesOf_43, nI_1]
        exact IH
      · rw [lnS, if_neg (by rw [e]; decide)] at IH
        simp only [e, i10, if_false, f_X13_linesOf_43, nI_1, lt_q, ln_bit (show k < 36 by omega), lN_or, ln_add (lnS_lt n r k)]
        exact IH
theorem q_same_l {n r n' r' : Nat} {L R : Nat → Int32} {p q : Int32} (h1 : 1 ≤ n) (h2 : n ≤ 12) (hr : r < 2 ^ n) (h1' : 1 ≤ n') (h2' : n' ≤ 12) (hr' : r' < 2 ^ n') (hR : rRep n r = rRep n' r') (e3 : f_X9_row p R = some (nI r)) (e4 : f_X9_steps p L = some (nI n)) (k3 : f_X9_row q R = some (nI r')) (k4 : f_X9_steps q L = some (nI n')) (t C : Int32) : ∀ (f k : Nat) (c0 s0 : Nat → Int32), k ≤ rRep n r → rRep n r - k < f → (∀ j, j < k → (lnO n r j = 0 ↔ lnO n' r' j = 0)) →
    ∃ (c1 s1 : Nat → Int32), f_X11_sameLines_76 f p q (nI (rRep n r)) (nI k) t C c0 s0 L R = some (if lnS n r (rRep n r) = lnS n' r' (rRep n r) then 1 else 0, 0, c1, s1)
  | 0, _, _, _, _, h, _ => absurd h (Nat.not_lt_zero _)
  | f + 1, k, c0, s0, hk, hf, hj => by
    have lr := rRep_le (n := n) (r := r) h2
    rw [f_X11_sameLines_76]
    by_cases z : rRep n r ≤ k
    · rw [if_pos ((nI_leI (by omega) (by omega)).mpr z), if_pos ((lnS_eq _).mpr (fun j h => hj j (by omega)))]
      exact ⟨c0, s0, rfl⟩
    · obtain ⟨zz, y1, -⟩ := lines_both h1 h2 hr (show k < rRep n r by omega)
      obtain ⟨zz', y1', -⟩ := lines_both h1' h2' hr' (show k < rRep n' r' by omega)
      obtain ⟨c1, s1, m1⟩ := y1 c0 s0
      obtain ⟨c2, s2, m2⟩ := y1' c1 s1
      rw [if_neg (fun y => z ((nI_leI (by omega) (by omega)).mp y))]
      simp only [e3, e4, k3, k4, m1, m2, bd_s]
      have next : lnO n r k = lnO n' r' k → ∃ (c1 s1 : Nat → Int32), f_X11_sameLines_76 f p q (nI (rRep n r)) (nI (k + 1)) t C c2 s2 L R = some (if lnS n r (rRep n r) = lnS n' r' (rRep n r) then 1 else 0, 0, c1, s1) := fun e =>
        q_same_l h1 h2 hr h1' h2' hr' hR e3 e4 k3 k4 t C f (k + 1) c2 s2 (by omega) (by omega) (fun j h => by
          by_cases y : j = k
          · rw [y, e]
          · exact hj j (by omega))
      by_cases e : lnO n r k = lnO n' r' k
      · rw [if_pos e, nI_1]; exact next e
      · rw [if_neg e, if_neg (fun y => by
          have := (lnS_eq _).mp y k (by omega)
          rcases zz with u | u <;> rcases zz' with v | v
          · exact e (u.trans v.symm)
          · have w := this.mp u; rw [v] at w; exact absurd w (by decide)
          · have w := this.mpr v; rw [u] at w; exact absurd w (by decide)
          · exact e (u.trans v.symm))]
        exact ⟨c2, s2, rfl⟩
theorem q_sameLines {c : Nat} {L R V : Nat → Int32} (h : SV c L R V) (p q t a b d : Int32) (c0 s0 l0 u0 w0 : Nat → Int32) : ∃ (x y : Int32) (c1 s1 l1 u1 w1 : Nat → Int32), y ≠ 4 ∧ f_X11_sameLines p q t (nI c) c0 s0 L R = some (x, y, c1, s1) ∧ f_X13_sameLines p q a b d (nI c) l0 u0 w0 V = some (x, 0, y, -1, l1, u1, w1) := by
  rcases q_sv h p with ⟨s, n, r, hs, hs5, h1, h2, hr, -, -, -, e1, e2, e3, e4, e5, e6⟩ | ⟨e1, e2⟩
  · rcases q_sv h q with ⟨s', n', r', hs', hs5', h1', h2', hr', -, -, -, k1, k2, k3, k4, k5, k6⟩ | ⟨k1, k2⟩
    · have g1 : 1 ≤ n := by omega
      have g1' : 1 ≤ n' := by omega
      have lr := rRep_le (n := n) (r := r) h2
      have lr' := rRep_le (n := n') (r := r') h2'
      by_cases e : rRep n r = rRep n' r'
      · obtain ⟨c1, s1, r1⟩ := q_same_l g1 h2 hr g1' h2' hr' e e3 e4 k3 k4 t (nI c) kFU 0 c0 s0 (Nat.zero_le _) (by unfold kFU; omega) (fun j hj => absurd hj (Nat.not_lt_zero _))
        obtain ⟨u1, m1, m2⟩ := x13_lays g1 h2 hr u0
        obtain ⟨l1, w1, m3⟩ := x13_linesOf_20 (V := V) g1 h2 hr m2 kFU 0 l0 w0 (Nat.zero_le _) (by unfold kFU; omega)
        obtain ⟨u2, m4, m5⟩ := x13_lays g1' h2' hr' u1
        obtain ⟨l2, w2, m6⟩ := x13_linesOf_20 (V := V) g1' h2' hr' m5 kFU 0 l1 w1 (Nat.zero_le _) (by unfold kFU; omega)
        have o1 : f_X13_linesOf p l0 u0 w0 V = some (lN (lnS n r (rRep n r)), l1, u1, w1) := by
          rw [f_X13_linesOf, e5, bd_s, e6, bd_s, m1, bd_s]; exact m3
        have o2 : f_X13_linesOf q l1 u1 w1 V = some (lN (lnS n' r' (rRep n r)), l2, u2, w2) := by
          rw [f_X13_linesOf, k5, bd_s, k6, bd_s, m4, bd_s, e]; exact m6
        have b1 := lnS_lt n r (rRep n r)
        have b2 := lnS_lt n' r' (rRep n r)
        have b3 : 2 ^ rRep n r ≤ 2 ^ 36 := Nat.pow_le_pow_right (by decide) lr
        refine ⟨if lnS n r (rRep n r) = lnS n' r' (rRep n r) then 1 else 0, 0, c1, s1, l2, u2, w2, by decide, ?_, ?_⟩
        · simp only [f_X11_sameLines, e1, e3, e4, k1, k3, k4, bd_s, if_true, x8_repeats g1 h2 hr, x8_repeats g1' h2' hr', ← e]
          exact r1
        · simp only [f_X13_sameLines, e2, e5, e6, k2, k5, k6, bd_s, i10, if_false, x13_repeats g1 h2 hr, x13_repeats g1' h2' hr', ← e, if_true, o1, o2, lg_cmp_eq, pk_lEQ (show lnS n r (rRep n r) < 2 ^ 63 by omega) (show lnS n' r' (rRep n r) < 2 ^ 63 by omega), f_X13_sameLines_82, f_X13_good]
          by_cases y : lnS n r (rRep n r) = lnS n' r' (rRep n r)
          · rw [if_pos y, if_pos y]
          · rw [if_neg y, if_neg y]
      · have z : ¬ nI (rRep n r) = nI (rRep n' r') := fun z => e ((nI_eq (by omega) (by omega)).mp z)
        refine ⟨-1, 5, c0, s0, l0, u0, w0, by decide, ?_, ?_⟩
        · simp only [f_X11_sameLines, e1, e3, e4, k1, k3, k4, bd_s, if_true, x8_repeats g1 h2 hr, x8_repeats g1' h2' hr', z, if_false, f_X11_refused]
        · simp only [f_X13_sameLines, e2, e5, e6, k2, k5, k6, bd_s, i10, if_false, x13_repeats g1 h2 hr, x13_repeats g1' h2' hr', z, f_X13_refused]
    · refine ⟨-1, 1, c0, s0, l0, u0, w0, by decide, ?_, ?_⟩
      · simp only [f_X11_sameLines, e1, k1, bd_s, i10, if_true, if_false, f_X11_sameLines_16, f_X11_refused]
      · simp only [f_X13_sameLines, e2, k2, bd_s, i10, if_true, if_false, f_X13_sameLines_21, f_X13_refused]
  · refine ⟨-1, 1, c0, s0, l0, u0, w0, by decide, ?_, ?_⟩
    · simp only [f_X11_sameLines, e1, bd_s, i10, if_false, f_X11_sameLines_16, f_X11_refused]
    · simp only [f_X13_sameLines, e2, bd_s, if_true, f_X13_sameLines_21, f_X13_refused]
