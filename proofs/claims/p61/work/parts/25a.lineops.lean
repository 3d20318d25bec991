/-! WHAT THE CALLS OF LINES ANSWER; periods; runs put together -/
theorem nI1_ne : ¬ (nI 1 = (0 : Int32)) := by decide
section VLN
variable {c s : Nat} {N R : Nat → Nat} {L W : Nat → Int32}
theorem v_out (h : SVx c N R L W) (hs : s < c) {l : Nat} (hl : l < rRep (N s) (R s)) (t : Int32) (cc ss : Nat → Int32) : ∃ c' s', f_X11_out (nI s) (nI l) t (nI c) cc ss L W = some (nI (lO (N s) (R s) l), 0, c', s') := by
  have g1 := sv_1 h hs
  have g2 := sv_2 h hs
  have hr := sv_R h hs
  have lr := rRep_le (n := N s) (r := R s) g2
  obtain ⟨c', s', e⟩ := (lO_ok g1 g2 hr hl).1 cc ss
  refine ⟨c', s', ?_⟩
  have z := lO_le (N s) (R s) l
  rw [f_X11_out, sv_l h hs, bd_s, if_pos rfl, sv_r h hs, bd_s, sv_n h hs, bd_s, if_neg (nI_pos (by omega)), x8_repeats g1 g2 hr, bd_s, if_pos (nI_lt hl (by omega)), e, bd_s]
  rcases (by omega : lO (N s) (R s) l = 0 ∨ lO (N s) (R s) l = 1) with q | q
  · rw [q, if_pos (show (nI 0, c', s').1 = 0 from nI_0), f_X11_out_75, f_X11_granted, bd_s]; rfl
  · rw [q, if_neg (show ¬ (nI 1, c', s').1 = 0 from nI1_ne), f_X11_out_75, f_X11_granted, bd_s]; rfl
theorem v_outs_39 (h : SVx c N R L W) (hs : s < c) (t : Int32) : ∀ (f l : Nat) (cc ss : Nat → Int32), l ≤ rRep (N s) (R s) → rRep (N s) (R s) - l < f → ∃ c' s', f_X11_outs_39 f (nI (R s)) (nI (N s)) (nI (sm (lO (N s) (R s)) l)) (nI l) t (nI c) cc ss L W = some (nI (sm (lO (N s) (R s)) (rRep (N s) (R s))), 0, c', s')
  | 0, _, _, _, _, hf => absurd hf (Nat.not_lt_zero _)
  | f + 1, l, cc, ss, hl, hf => by
    have g1 := sv_1 h hs
    have g2 := sv_2 h hs
    have hr := sv_R h hs
    have lr := rRep_le (n := N s) (r := R s) g2
    rw [f_X11_outs_39, x8_repeats g1 g2 hr, bd_s]
    by_cases q : l = rRep (N s) (R s)
    · rw [← q, if_pos (Int32.le_refl _), f_X11_granted, bd_s]
      exact ⟨cc, ss, rfl⟩
    · rw [if_neg (nI_ge (by omega) (by omega))]
      obtain ⟨c1, s1, e⟩ := (lO_ok g1 g2 hr (show l < rRep (N s) (R s) by omega)).1 cc ss
      have z := lO_le (N s) (R s) l
      obtain ⟨c', s', go⟩ := v_outs_39 h hs t f (l + 1) c1 s1 (by omega) (by omega)
      rw [sm] at go
      refine ⟨c', s', ?_⟩
      rw [e, bd_s]
      rcases (by omega : lO (N s) (R s) l = 0 ∨ lO (N s) (R s) l = 1) with w | w
      · rw [w] at go ⊢
        rw [if_pos (show (nI 0, c1, s1).1 = 0 from nI_0), f_X11_outs_70, lt_q, show (0 : Int32) = nI 0 from rfl, nI_add, nI_1]
        exact go
      · rw [w] at go ⊢
        rw [if_neg (show ¬ (nI 1, c1, s1).1 = 0 from nI1_ne), f_X11_outs_70, lt_q, nI_1, nI_1]
        exact go
theorem v_outs (h : SVx c N R L W) (hs : s < c) (t : Int32) (cc ss : Nat → Int32) : ∃ c' s', f_X11_outs (nI s) t (nI c) cc ss L W = some (nI (sm (lO (N s) (R s)) (rRep (N s) (R s))), 0, c', s') := by
  have lr := rRep_le (n := N s) (r := R s) (sv_2 h hs)
  obtain ⟨c', s', go⟩ := v_outs_39 h hs t kFU 0 cc ss (Nat.zero_le _) (by unfold kFU; omega)
  exact ⟨c', s', by rw [f_X11_outs, sv_l h hs, bd_s, if_pos rfl, sv_r h hs, bd_s, sv_n h hs, bd_s]; exact go⟩
theorem v_first_36 (h : SVx c N R L W) (hs : s < c) (t : Int32) : ∀ (f l : Nat) (cc ss : Nat → Int32), 1 ≤ l → l ≤ rRep (N s) (R s) → rRep (N s) (R s) - l < f → (∀ j, 1 ≤ j → j < l → lO (N s) (R s) j = 1) → ∃ (x : Int32) (c' s' : Nat → Int32), f_X11_firstLine_36 f (nI (R s)) (nI (N s)) (nI l) t (nI c) cc ss L W = some (x, 0, c', s') ∧ (x = -2 ∨ ∃ k, 1 ≤ k ∧ k < rRep (N s) (R s) ∧ x = nI k ∧ lO (N s) (R s) k = 0 ∧ ∀ j, 1 ≤ j → j < k → lO (N s) (R s) j = 1)
  | 0, _, _, _, _, _, hf, _ => absurd hf (Nat.not_lt_zero _)
  | f + 1, l, cc, ss, h1, hl, hf, ha => by
    have g1 := sv_1 h hs
    have g2 := sv_2 h hs
    have hr := sv_R h hs
    have lr := rRep_le (n := N s) (r := R s) g2
    rw [f_X11_firstLine_36, x8_repeats g1 g2 hr, bd_s]
    by_cases q : l = rRep (N s) (R s)
    · rw [← q, if_pos (Int32.le_refl _), f_X11_granted, bd_s]
      exact ⟨-2, cc, ss, rfl, Or.inl rfl⟩
    · rw [if_neg (nI_ge (by omega) (by omega))]
      obtain ⟨c1, s1, e⟩ := (lO_ok g1 g2 hr (show l < rRep (N s) (R s) by omega)).1 cc ss
      have z := lO_le (N s) (R s) l
      rw [e, bd_s]
      rcases (by omega : lO (N s) (R s) l = 0 ∨ lO (N s) (R s) l = 1) with w | w
      · rw [if_pos (show (nI (lO (N s) (R s) l), c1, s1).1 = 0 by rw [w]; exact nI_0), f_X11_granted, bd_s]
        exact ⟨nI l, c1, s1, rfl, Or.inr ⟨l, h1, by omega, rfl, w, ha⟩⟩
      · rw [if_neg (show ¬ (nI (lO (N s) (R s) l), c1, s1).1 = 0 by rw [w]; exact nI1_ne), nI_1]
        exact v_first_36 h hs t f (l + 1) c1 s1 (by omega) (by omega) (by omega) (fun j j1 j2 => by
          by_cases y : j = l
          · rw [y]; exact w
          · exact ha j j1 (by omega))
theorem v_first (h : SVx c N R L W) (hs : s < c) (t : Int32) (cc ss : Nat → Int32) : ∃ (x : Int32) (c' s' : Nat → Int32), f_X11_firstLine (nI s) t (nI c) cc ss L W = some (x, 0, c', s') ∧ (x = -2 ∨ ∃ k, 1 ≤ k ∧ k < rRep (N s) (R s) ∧ x = nI k ∧ lO (N s) (R s) k = 0 ∧ ∀ j, 1 ≤ j → j < k → lO (N s) (R s) j = 1) := by
  have lr := rRep_le (n := N s) (r := R s) (sv_2 h hs)
  have rp := rRep_pos (n := N s) (r := R s) (sv_1 h hs)
  rw [f_X11_firstLine, sv_l h hs, bd_s, if_pos rfl, sv_r h hs, bd_s, sv_n h hs, bd_s]
  exact v_first_36 h hs t kFU 1 cc ss (Nat.le_refl _) rp (by unfold kFU; omega) (fun j j1 j2 => by omega)
theorem v_same_76 (h : SVx c N R L W) (hs : s < c) (t : Int32) : ∀ (f l : Nat) (cc ss : Nat → Int32), l ≤ rRep (N s) (R s) → rRep (N s) (R s) - l < f → ∃ c' s', f_X11_sameLines_76 f (nI s) (nI s) (nI (rRep (N s) (R s))) (nI l) t (nI c) cc ss L W = some (1, 0, c', s')
  | 0, _, _, _, _, hf => absurd hf (Nat.not_lt_zero _)
  | f + 1, l, cc, ss, hl, hf => by
    have g1 := sv_1 h hs
    have g2 := sv_2 h hs
    have hr := sv_R h hs
    have lr := rRep_le (n := N s) (r := R s) g2
    rw [f_X11_sameLines_76]
    by_cases q : l = rRep (N s) (R s)
    · rw [← q, if_pos (Int32.le_refl _), f_X11_granted, bd_s]
      exact ⟨cc, ss, rfl⟩
    · obtain ⟨c1, s1, e⟩ := (lO_ok g1 g2 hr (show l < rRep (N s) (R s) by omega)).1 cc ss
      obtain ⟨c2, s2, e2⟩ := (lO_ok g1 g2 hr (show l < rRep (N s) (R s) by omega)).1 c1 s1
      rw [if_neg (nI_ge (by omega) (by omega)), sv_r h hs, bd_s, sv_n h hs, bd_s, e, bd_s, bd_s, bd_s, show f_X6_goesOut (nI (R s)) (nI (N s)) (nI l) (nI (lO (N s) (R s) l), c1, s1).2.1 (nI (lO (N s) (R s) l), c1, s1).2.2 = _ from e2, bd_s, if_pos rfl, nI_1]
      exact v_same_76 h hs t f (l + 1) c2 s2 (by omega) (by omega)
theorem v_same (h : SVx c N R L W) (hs : s < c) (t : Int32) (cc ss : Nat → Int32) : ∃ c' s', f_X11_sameLines (nI s) (nI s) t (nI c) cc ss L W = some (1, 0, c', s') := by
  have lr := rRep_le (n := N s) (r := R s) (sv_2 h hs)
  obtain ⟨c', s', go⟩ := v_same_76 h hs t kFU 0 cc ss (Nat.zero_le _) (by unfold kFU; omega)
  refine ⟨c', s', ?_⟩
  simp only [f_X11_sameLines, sv_l h hs, sv_r h hs, sv_n h hs, bd_s, if_true, x8_repeats (sv_1 h hs) (sv_2 h hs) (sv_R h hs)]
  exact go
end VLN
section PER
variable {n r : Nat}
theorem rPd_dvd (h1 : 1 ≤ n) (h2 : n ≤ 12) (hr : r < 2 ^ n) : n % rPd n r = 0 := by
  obtain ⟨p1, p2, p3, p4⟩ := rPd_spec h1 h2 hr
  have m := Nat.mod_lt n (show 0 < rPd n r by omega)
  have e := rTi_mul p1 (n % rPd n r) (n / rPd n r)
  rw [Nat.mod_add_div, rTi_n h1 h2 hr] at e
  rcases Nat.eq_zero_or_pos (n % rPd n r) with z | z
  · exact z
  · exact absurd e.symm (p4 _ z m)
theorem rXc_0 {K L : Nat} : ∀ d, (∀ j, j < d → rX n r (K + j) = 0) → rXc n r (K + d) = rXc n r K
  | 0, _ => rfl
  | d + 1, h => by rw [← Nat.add_assoc, rXc, rXc_0 (L := L) d (fun j hj => h j (by omega)), h d (by omega), Nat.add_zero]
/-- behind a beginning the next one has the next number, or the row is at its end -/
theorem rX_next (h1 : 1 ≤ n) (h2 : n ≤ 12) (hr : r < 2 ^ n) {K M : Nat} (hK : K < n) (hKx : rX n r K = 1) (hM : 1 ≤ M) (hM2 : M ≤ n) (hx : rX n r (K + M) = 1) (h0 : ∀ j, 1 ≤ j → j < M → rX n r (K + j) = 0) : (K + M < n ∧ rXc n r (K + M) = rXc n r K + 1) ∨ (n ≤ K + M ∧ rH n r = rXc n r K + 1 ∧ rX n r (K + M - n) = 1 ∧ rXc n r (K + M - n) = 0) := by
  have one : ∀ d, d < M → rXc n r (K + 1 + d) = rXc n r K + 1 := fun d hd => by
    rw [rXc_0 (L := 0) d (fun j hj => by rw [show K + 1 + j = K + (j + 1) by omega]; exact h0 (j + 1) (by omega) (by omega)), rXc, hKx]
  by_cases q : K + M < n
  · left
    refine ⟨q, ?_⟩
    have := one (M - 1) (by omega)
    rwa [show K + 1 + (M - 1) = K + M by omega] at this
  · right
    refine ⟨by omega, ?_, ?_, ?_⟩
    · have := one (n - 1 - K) (by omega)
      rw [show K + 1 + (n - 1 - K) = n by omega, rXc_H h1 h2 hr] at this
      exact this
    · have := rX_per (n := n) (r := r) (k := K + M - n) h1
      rw [show K + M - n + n = K + M by omega] at this
      rw [← this]; exact hx
    · have := rXc_0 (n := n) (r := r) (K := 0) (L := 0) (K + M - n) (fun j hj => by
        have p := rX_per (n := n) (r := r) (k := 0 + j) h1
        rw [← p]
        have := h0 (n + j - K) (by omega) (by omega)
        rwa [show K + (n + j - K) = 0 + j + n by omega] at this)
      rwa [Nat.zero_add] at this
theorem rX_uniq {K K' : Nat} (hx : rX n r K = 1) (hx' : rX n r K' = 1) (h : rXc n r K = rXc n r K') : K = K' := by
  have lt : ∀ a b, a < b → rX n r a = 1 → rXc n r a < rXc n r b := fun a b hab ha => by
    have := rXc_mono n r (a + 1) (b - (a + 1))
    rw [show a + 1 + (b - (a + 1)) = b by omega, rXc, ha] at this
    omega
  rcases Nat.lt_trichotomy K K' with g | g | g
  · have := lt K K' g hx; omega
  · exact g
  · have := lt K' K g hx'; omega
/-- runs go in pairs -/
theorem rH_even (h1 : 1 ≤ n) (h2 : n ≤ 12) (hr : r < 2 ^ n) : rH n r % 2 = 0 := of_decide_eq_true (allR_at (p := fun n r => decide (rH n r % 2 = 0)) (by decide +kernel) h1 h2 hr)
end PER
