/-! WHAT THE CALLS ANSWER of stacks that there are (the class alone): steps, letters, runs, energies -/
def SVx (c : Nat) (N R : Nat → Nat) (L W : Nat → Int32) : Prop := c ≤ 5 ∧ ∀ s, s < c → 2 ≤ N s ∧ N s ≤ 12 ∧ R s < 2 ^ N s ∧ L s = nI (N s) ∧ W s = nI (R s)
section VOP
variable {c s : Nat} {N R : Nat → Nat} {L W : Nat → Int32}
theorem sv_5 (h : SVx c N R L W) (hs : s < c) : s < 5 := Nat.lt_of_lt_of_le hs h.1
theorem sv_l (h : SVx c N R L W) (hs : s < c) : f_X11_lacks (nI s) (nI c) = some 0 := by
  have := h.1
  rw [f_X11_lacks, if_neg (nI_pos (by omega)), if_pos (nI_lt hs (by omega))]
theorem sv_r (h : SVx c N R L W) (hs : s < c) : f_X9_row (nI s) W = some (nI (R s)) := by rw [x9_row (sv_5 h hs), (h.2 s hs).2.2.2.2]
theorem sv_n (h : SVx c N R L W) (hs : s < c) : f_X9_steps (nI s) L = some (nI (N s)) := by rw [x9_steps (sv_5 h hs), (h.2 s hs).2.2.2.1]
theorem sv_1 (h : SVx c N R L W) (hs : s < c) : 1 ≤ N s := Nat.le_trans (by decide) (h.2 s hs).1
theorem sv_2 (h : SVx c N R L W) (hs : s < c) : N s ≤ 12 := (h.2 s hs).2.1
theorem sv_R (h : SVx c N R L W) (hs : s < c) : R s < 2 ^ N s := (h.2 s hs).2.2.1
theorem v_st0 (h : SVx c N R L W) (hs : s < c) (t : Int32) : f_X11_stack (nI s) (0 : Int32) t (nI c) L W = some (nI (N s), 0) := by
  simp (decide := true) only [f_X11_stack, sv_l h hs, sv_r h hs, sv_n h hs, bd_s, if_true, if_false, f_X11_granted]
theorem v_st1 (h : SVx c N R L W) (hs : s < c) (t : Int32) : f_X11_stack (nI s) (1 : Int32) t (nI c) L W = some (nI (R s), 0) := by
  simp (decide := true) only [f_X11_stack, sv_l h hs, sv_r h hs, sv_n h hs, bd_s, if_true, if_false, f_X11_granted]
theorem v_st2 (h : SVx c N R L W) (hs : s < c) (t : Int32) : f_X11_stack (nI s) (2 : Int32) t (nI c) L W = some (nI (rRep (N s) (R s)), 0) := by
  simp (decide := true) only [f_X11_stack, sv_l h hs, sv_r h hs, sv_n h hs, bd_s, if_true, if_false, f_X11_granted, x8_repeats (sv_1 h hs) (sv_2 h hs) (sv_R h hs)]
theorem v_st3 (h : SVx c N R L W) (hs : s < c) (t : Int32) : f_X11_stack (nI s) (3 : Int32) t (nI c) L W = some (nI (rPd (N s) (R s)), 0) := by
  simp (decide := true) only [f_X11_stack, sv_l h hs, sv_r h hs, sv_n h hs, bd_s, if_true, if_false, f_X11_granted, x8_period (sv_1 h hs) (sv_2 h hs) (sv_R h hs)]
theorem v_st4 (h : SVx c N R L W) (hs : s < c) (t : Int32) : f_X11_stack (nI s) (4 : Int32) t (nI c) L W = some (nI (rH (N s) (R s)), 0) := by
  simp (decide := true) only [f_X11_stack, sv_l h hs, sv_r h hs, sv_n h hs, bd_s, if_true, if_false, f_X11_granted, x8_hexes (sv_1 h hs) (sv_2 h hs) (sv_R h hs)]
theorem v_st5 (h : SVx c N R L W) (hs : s < c) (t : Int32) : f_X11_stack (nI s) (5 : Int32) t (nI c) L W = some (nI (if rH (N s) (R s) = 0 then 1 else rH (N s) (R s)), 0) := by
  simp (decide := true) only [f_X11_stack, sv_l h hs, sv_r h hs, sv_n h hs, bd_s, if_true, if_false, f_X11_granted, x8_runs (sv_1 h hs) (sv_2 h hs) (sv_R h hs)]
theorem v_sum (h : SVx c N R L W) (hs : s < c) (t : Int32) : f_X11_sum (nI s) t (nI c) L W = some ((2 : Int32) * nI (rP (R s)) - nI (N s), 0) := by
  simp only [f_X11_sum, sv_l h hs, sv_r h hs, sv_n h hs, bd_s, if_true, x8_total (sv_2 h hs) (sv_R h hs), f_X11_granted]
theorem v_layer (h : SVx c N R L W) (hs : s < c) {k : Nat} (hk : k < 36) (t : Int32) : f_X11_layer (nI s) (nI k) t (nI c) L W = some (nI (rLt (N s) (R s) k), 0) := by
  have g1 : ¬ nI k < 0 := nI_pos (by omega)
  have g2 : nI k < (36 : Int32) := nI_lt (b := 36) hk (by omega)
  simp only [f_X11_layer, sv_l h hs, sv_r h hs, sv_n h hs, bd_s, if_true, if_false, g1, g2, f_X11_granted, x8_letterAt (sv_1 h hs) (sv_2 h hs) (sv_R h hs) (show k < 100000 by omega)]
theorem v_hex (h : SVx c N R L W) (hs : s < c) {k : Nat} (hk : k < 36) (t : Int32) : f_X11_hex (nI s) (nI k) t (nI c) L W = some (nI (rX (N s) (R s) k), 0) := by
  have g1 : ¬ nI k < 0 := nI_pos (by omega)
  have g2 : nI k < (36 : Int32) := nI_lt (b := 36) hk (by omega)
  rcases rX_01 (N s) (R s) k with e | e
  · simp only [f_X11_hex, sv_l h hs, sv_r h hs, sv_n h hs, bd_s, if_true, if_false, g1, g2, f_X11_granted, x8_turnedBy (sv_1 h hs) (sv_2 h hs) (sv_R h hs) (show k < 100000 by omega), x8_begins (sv_1 h hs) (sv_2 h hs) (sv_R h hs), f_X11_hex_71, e, nI_0]
  · simp only [f_X11_hex, sv_l h hs, sv_r h hs, sv_n h hs, bd_s, if_true, if_false, g1, g2, f_X11_granted, x8_turnedBy (sv_1 h hs) (sv_2 h hs) (sv_R h hs) (show k < 100000 by omega), x8_begins (sv_1 h hs) (sv_2 h hs) (sv_R h hs), f_X11_hex_71, e, show ¬ nI 1 = 0 by decide]
    rfl
theorem v_agree (h : SVx c N R L W) (hs : s < c) {m : Nat} (h0 : 1 ≤ m) (hm : m ≤ 36) (t : Int32) : f_X11_agree (nI s) (nI m) t (nI c) L W = some (nI (rAg (N s) (R s) m (rRep (N s) (R s))), 0) := by
  have g1 : ¬ nI m < (1 : Int32) := nI_nlt (b := 1) h0 (by omega)
  have g2 : nI m ≤ (36 : Int32) := nI_le (b := 36) hm (by omega)
  simp only [f_X11_agree, sv_l h hs, sv_r h hs, sv_n h hs, bd_s, if_true, if_false, g1, g2, f_X11_granted, x8_layersAlike (sv_1 h hs) (sv_2 h hs) (sv_R h hs) hm]
theorem v_energy (h : SVx c N R L W) (hs : s < c) (t a1 a2 a3 : Int32) : f_X11_energy (nI s) t (nI c) a1 a2 a3 L W = some (eE (N s) (R s) a1 a2 a3, 0) := by
  simp only [f_X11_energy, sv_l h hs, sv_r h hs, sv_n h hs, bd_s, if_true, x4_energyOf (sv_1 h hs) (sv_2 h hs) (sv_R h hs), f_X11_granted]
theorem v_slipEnergy (h : SVx c N R L W) (hs : s < c) {k : Nat} (hk : k < N s) (t a1 a2 a3 : Int32) : f_X11_slipEnergy (nI s) (nI k) t (nI c) a1 a2 a3 L W = some (eE (N s) (rF (N s) (R s) k) a1 a2 a3, 0) := by
  have h2 := sv_2 h hs
  have g1 : ¬ nI k < 0 := nI_pos (by omega)
  have g2 : nI k < nI (N s) := nI_lt hk (by omega)
  have g3 : nI (R s) ^^^ nI (2 ^ (N s - 1 - k)) = nI (rF (N s) (R s) k) := nI_xor _ _
  simp only [f_X11_slipEnergy, sv_l h hs, sv_r h hs, sv_n h hs, bd_s, if_true, if_false, g1, g2, x8_bit h2 hk, g3, x4_energyOf (sv_1 h hs) h2 (rF_lt (sv_1 h hs) (sv_R h hs)), f_X11_granted]
theorem v_weakest (h : SVx c N R L W) (hs : s < c) (t a1 a2 a3 : Int32) : f_X11_weakest (nI s) t (nI c) a1 a2 a3 L W = some (nI (rWk (N s) (R s) a1 a2 a3 (N s - 1)), 0) := by
  simp only [f_X11_weakest, sv_l h hs, sv_r h hs, sv_n h hs, bd_s, if_true, x4_weakest (sv_1 h hs) (sv_2 h hs) (sv_R h hs), f_X11_granted]
theorem v_faultEnergy (h : SVx c N R L W) (hs : s < c) {k : Nat} (h0 : 1 ≤ k) (hk : k < N s) (t a1 a2 a3 : Int32) : f_X11_faultEnergy (nI s) (nI k) t (nI c) a1 a2 a3 L W = some (eE (N s) (rO (N s) (R s) k) a1 a2 a3, 0) := by
  have h2 := sv_2 h hs
  have g1 : ¬ nI k < (1 : Int32) := nI_nlt (b := 1) h0 (by omega)
  have g2 : nI k < nI (N s) := nI_lt hk (by omega)
  simp only [f_X11_faultEnergy, sv_l h hs, sv_r h hs, sv_n h hs, bd_s, if_true, if_false, g1, g2, x8_otherFrom h2 (Nat.le_of_lt hk), x4_energyOf (sv_1 h hs) h2 (rO_lt (sv_R h hs)), f_X11_granted]
theorem v_least (h : SVx c N R L W) (hs : s < c) {x : Nat} (hx : x < 4) (t : Int32) : f_X11_least (nI s) (nI x) t (nI c) L W = some (nI (rLA (N s) (R s) x 4), 0) := by
  have g : f_X11_isNoHow (nI x) = some 0 := of_decide_eq_true (allB_at (N := 4) (p := fun x => decide (f_X11_isNoHow (nI x) = some 0)) (by decide +kernel) x hx)
  simp only [f_X11_least, sv_l h hs, sv_r h hs, sv_n h hs, g, bd_s, if_true, x8_leastAlike (sv_1 h hs) (sv_2 h hs) (sv_R h hs) hx, f_X11_granted]
theorem v_many (h : SVx c N R L W) (hs : s < c) {x : Nat} (hx : x < 4) (t : Int32) : f_X11_manyAlike (nI s) (nI x) t (nI c) L W = some (nI (nwC (rU (N s) (R s)) x 4 * rPd (N s) (R s)), 0) := by
  have g : f_X11_isNoHow (nI x) = some 0 := of_decide_eq_true (allB_at (N := 4) (p := fun x => decide (f_X11_isNoHow (nI x) = some 0)) (by decide +kernel) x hx)
  simp only [f_X11_manyAlike, sv_l h hs, sv_r h hs, sv_n h hs, g, bd_s, if_true, x8_countAlike (sv_1 h hs) (sv_2 h hs) (sv_R h hs) hx, f_X11_granted]
/-- a run: from the i-th beginning to the next one -/
theorem v_run1 (h : SVx c N R L W) (hs : s < c) {i K : Nat} (hH : rH (N s) (R s) ≠ 0) (hi : i < rH (N s) (R s)) (hK : K < N s) (hKx : rX (N s) (R s) K = 1) (hKi : rXc (N s) (R s) K = i) (t : Int32) : ∃ M : Nat, f_X11_run (nI s) (nI i) t (nI c) L W = some (nI M, 0) ∧ 1 ≤ M ∧ M ≤ N s ∧ rX (N s) (R s) (K + M) = 1 ∧ ∀ j, 1 ≤ j → j < M → rX (N s) (R s) (K + j) = 0 := by
  obtain ⟨M, m1, m2, m3, m4⟩ := rX_run (sv_1 h hs) hKx
  have l := rH_le (N s) (R s)
  have r1 := x8_run_18 (sv_1 h hs) (sv_2 h hs) (sv_R h hs) hK hKx m1 m2 m4 m3 kFU 0 (Nat.zero_le _) (by have := sv_2 h hs; unfold kFU; omega)
  rw [hKi] at r1
  have r2 : f_X8_runLength (nI (R s)) (nI (N s)) (nI i) = some (nI M) := by rw [x8_runLen1 (sv_1 h hs) (sv_2 h hs) (sv_R h hs) hH]; exact r1
  have g1 : ¬ nI i < 0 := nI_pos (by omega)
  have g2 : nI i < nI (rH (N s) (R s)) := nI_lt hi (by omega)
  refine ⟨M, ?_, m1, m2, m3, m4⟩
  simp only [f_X11_run, sv_l h hs, sv_r h hs, sv_n h hs, bd_s, if_true, if_false, g1, g2, x8_runs (sv_1 h hs) (sv_2 h hs) (sv_R h hs), hH, r2, f_X11_granted]
theorem v_run0 (h : SVx c N R L W) (hs : s < c) (hH : rH (N s) (R s) = 0) (t : Int32) : f_X11_run (nI s) (0 : Int32) t (nI c) L W = some (nI (N s), 0) := by
  have g1 : ¬ (0 : Int32) < 0 := by decide
  have g2 : (0 : Int32) < nI 1 := by decide
  simp only [f_X11_run, sv_l h hs, sv_r h hs, sv_n h hs, bd_s, if_true, if_false, g1, g2, x8_runs (sv_1 h hs) (sv_2 h hs) (sv_R h hs), hH, x8_runLen0 (sv_1 h hs) (sv_2 h hs) (sv_R h hs) hH, f_X11_granted]
end VOP
