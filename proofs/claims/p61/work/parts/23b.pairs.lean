/-! WHAT THE CALLS ANSWER of two stacks, of the calmest, the weakest, the best fault -/
section VPAIR
variable {c s u : Nat} {N R : Nat → Nat} {L W : Nat → Int32}
theorem v_noHow {x : Nat} (hx : x < 4) : f_X11_isNoHow (nI x) = some 0 := of_decide_eq_true (allB_at (N := 4) (p := fun x => decide (f_X11_isNoHow (nI x) = some 0)) (by decide +kernel) x hx)
theorem v_neq {a b : Nat} (ha : a ≤ 12) (hb : b ≤ 12) (e : a ≠ b) : ¬ nI a = nI b := fun z => e ((nI_eq (by omega) (by omega)).mp z)
theorem v_alike1 (h : SVx c N R L W) (hs : s < c) (hu : u < c) {x : Nat} (hx : x < 4) (e : N u = N s) (t : Int32) : f_X11_alike (nI s) (nI u) (nI x) t (nI c) L W = some (if rLA (N s) (R s) x 4 = rLA (N s) (R u) x 4 then 1 else 0, 0) := by
  have hu2 : R u < 2 ^ N s := e ▸ sv_R h hu
  have b1 := rLA_lt (n := N s) (r := R s) (x := x) (sv_R h hs) 4
  have b2 := rLA_lt (n := N s) (r := R u) (x := x) hu2 4
  have p4 := p4096 (sv_2 h hs)
  simp only [f_X11_alike, sv_l h hs, sv_l h hu, v_noHow hx, sv_r h hs, sv_r h hu, sv_n h hs, sv_n h hu, e, bd_s, if_true, x8_leastAlike (sv_1 h hs) (sv_2 h hs) (sv_R h hs) hx, x8_leastAlike (sv_1 h hs) (sv_2 h hs) hu2 hx, f_X11_alike_107, f_X11_granted]
  by_cases g : rLA (N s) (R s) x 4 = rLA (N s) (R u) x 4
  · rw [if_pos (congrArg nI g), if_pos g]
  · rw [if_neg (fun z => g ((nI_eq (by omega) (by omega)).mp z)), if_neg g]
theorem v_alike0 (h : SVx c N R L W) (hs : s < c) (hu : u < c) {x : Nat} (hx : x < 4) (e : N u ≠ N s) (t : Int32) : f_X11_alike (nI s) (nI u) (nI x) t (nI c) L W = some (0, 0) := by
  simp only [f_X11_alike, sv_l h hs, sv_l h hu, v_noHow hx, sv_n h hs, sv_n h hu, v_neq (sv_2 h hs) (sv_2 h hu) (Ne.symm e), bd_s, if_true, if_false, f_X11_granted]
theorem v_slips1 (h : SVx c N R L W) (hs : s < c) (hu : u < c) {x : Nat} (hx : x < 4) (e : N u = N s) (t : Int32) : f_X11_slips (nI s) (nI u) (nI x) t (nI c) L W = some (nI (rDa (N s) (R s) (R u) x (N s) 4), 0) := by
  have hu2 : R u < 2 ^ N s := e ▸ sv_R h hu
  simp only [f_X11_slips, sv_l h hs, sv_l h hu, v_noHow hx, sv_r h hs, sv_r h hu, sv_n h hs, sv_n h hu, e, bd_s, if_true, x8_fewest (sv_1 h hs) (sv_2 h hs) (sv_R h hs) hu2 hx, f_X11_granted]
theorem v_slips0 (h : SVx c N R L W) (hs : s < c) (hu : u < c) {x : Nat} (hx : x < 4) (e : N u ≠ N s) (t : Int32) : f_X11_slips (nI s) (nI u) (nI x) t (nI c) L W = some (-2, 0) := by
  simp only [f_X11_slips, sv_l h hs, sv_l h hu, v_noHow hx, sv_n h hs, sv_n h hu, v_neq (sv_2 h hs) (sv_2 h hu) (Ne.symm e), bd_s, if_true, if_false, f_X11_granted]
theorem v_dif_74 (h : SVx c N R L W) (hs : s < c) (hu : u < c) (t : Int32) (g : ∀ m, 1 ≤ m → m ≤ 36 → rAg (N s) (R s) m (rRep (N s) (R s)) * rRep (N u) (R u) = rAg (N u) (R u) m (rRep (N u) (R u)) * rRep (N s) (R s)) : ∀ (f m : Nat), 1 ≤ m → m ≤ 37 → 37 - m < f →
    f_X11_differs_74 f (nI s) (nI u) (nI (R s)) (nI (R u)) (nI (rRep (N s) (R s))) (nI (rRep (N u) (R u))) (nI m) t (nI c) L W = some (-2, 0)
  | 0, _, _, _, hf => absurd hf (Nat.not_lt_zero _)
  | f + 1, m, h1, h2, hf => by
    rw [f_X11_differs_74]
    by_cases q : 36 < m
    · rw [if_pos (show (36 : Int32) < nI m from nI_lt (a := 36) q (by omega)), f_X11_granted, bd_s]
    · rw [if_neg (show ¬ (36 : Int32) < nI m from nI_nlt (a := 36) (by omega) (by omega)), sv_n h hs, bd_s, x8_layersAlike (sv_1 h hs) (sv_2 h hs) (sv_R h hs) (by omega), bd_s, sv_n h hu, bd_s, x8_layersAlike (sv_1 h hu) (sv_2 h hu) (sv_R h hu) (by omega), bd_s, pk_mul, pk_mul, if_pos (congrArg nI (g m h1 (by omega))), nI_1]
      exact v_dif_74 h hs hu t g f (m + 1) (by omega) (by omega) (by omega)
theorem v_differs (h : SVx c N R L W) (hs : s < c) (hu : u < c) (t : Int32) (g : ∀ m, 1 ≤ m → m ≤ 36 → rAg (N s) (R s) m (rRep (N s) (R s)) * rRep (N u) (R u) = rAg (N u) (R u) m (rRep (N u) (R u)) * rRep (N s) (R s)) : f_X11_differs (nI s) (nI u) t (nI c) L W = some (-2, 0) := by
  simp only [f_X11_differs, sv_l h hs, sv_l h hu, sv_r h hs, sv_r h hu, sv_n h hs, sv_n h hu, bd_s, if_true, x8_repeats (sv_1 h hs) (sv_2 h hs) (sv_R h hs), x8_repeats (sv_1 h hu) (sv_2 h hu) (sv_R h hu)]
  exact v_dif_74 h hs hu t g kFU 1 (by decide) (by decide) (by unfold kFU; omega)
/-- of one or two stacks the calmest -/
theorem v_calmest (h : SVx c N R L W) (h0 : 1 ≤ c) (hc : c ≤ 2) (t a1 a2 a3 : Int32) : ∃ b, b < c ∧ f_X11_calmest t (nI c) 1 a1 a2 a3 L W = some (nI b, 0) ∧ (∀ j, j < c → ¬ eE (N j) (R j) a1 a2 a3 * nI (N b) < eE (N b) (R b) a1 a2 a3 * nI (N j)) ∧ ∀ j, j < b → eE (N b) (R b) a1 a2 a3 * nI (N j) < eE (N j) (R j) a1 a2 a3 * nI (N b) := by
  have s0 : 0 < c := h0
  have e0 := sv_r h s0
  have e1 := sv_n h s0
  rw [nI_0] at e0 e1
  have en : f_X4_energyOf (nI (R 0)) (nI (N 0)) a1 a2 a3 = _ := x4_energyOf (sv_1 h s0) (sv_2 h s0) (sv_R h s0)
  have st : f_X11_calmest t (nI c) 1 a1 a2 a3 L W = f_X11_calmest_45 kFU (0 : Int32) (eE (N 0) (R 0) a1 a2 a3) (1 : Int32) t (nI c) 1 a1 a2 a3 L W := by
    simp only [f_X11_calmest, e0, e1, en, bd_s, show ¬ (1 : Int32) = 0 by decide, if_false]
  rw [st, show kFU = 99999 + 1 from rfl, f_X11_calmest_45]
  by_cases q : c = 1
  · subst q
    rw [if_pos (show nI 1 ≤ (1 : Int32) by decide)]
    refine ⟨0, by decide, rfl, fun j hj => ?_, fun j hj => absurd hj (Nat.not_lt_zero _)⟩
    obtain rfl : j = 0 := by omega
    exact Int32.lt_irrefl
  · obtain rfl : c = 2 := by omega
    have s1 : 1 < 2 := by decide
    have k1 : f_X9_row (1 : Int32) W = some (nI (R 1)) := sv_r h s1
    have k2 : f_X9_steps (1 : Int32) L = some (nI (N 1)) := sv_n h s1
    rw [if_neg (show ¬ nI 2 ≤ (1 : Int32) by decide), k1, bd_s, k2, bd_s, x4_energyOf (sv_1 h s1) (sv_2 h s1) (sv_R h s1), bd_s, e1, bd_s, bd_s]
    have fin : ∀ b : Int32, f_X11_calmest_45 99999 b (eE (N 0) (R 0) a1 a2 a3) ((1 : Int32) + 1) t (nI 2) 1 a1 a2 a3 L W = some (b, 0) := fun b => by
      rw [show 99999 = 99998 + 1 from rfl, f_X11_calmest_45, if_pos (show nI 2 ≤ (1 : Int32) + 1 by decide)]; rfl
    have fin' : ∀ b : Int32, f_X11_calmest_45 99999 b (eE (N 1) (R 1) a1 a2 a3) ((1 : Int32) + 1) t (nI 2) 1 a1 a2 a3 L W = some (b, 0) := fun b => by
      rw [show 99999 = 99998 + 1 from rfl, f_X11_calmest_45, if_pos (show nI 2 ≤ (1 : Int32) + 1 by decide)]; rfl
    by_cases g : eE (N 0) (R 0) a1 a2 a3 * nI (N 1) ≤ eE (N 1) (R 1) a1 a2 a3 * nI (N 0)
    · refine ⟨0, by decide, ?_, fun j hj => ?_, fun j hj => absurd hj (Nat.not_lt_zero _)⟩
      · rw [if_pos g, f_X11_calmest_110, fin]; rfl
      · rcases (by omega : j = 0 ∨ j = 1) with rfl | rfl
        · exact Int32.lt_irrefl
        · exact fun z => absurd (Int32.lt_of_le_of_lt g z) Int32.lt_irrefl
    · refine ⟨1, by decide, ?_, fun j hj => ?_, fun j hj => by obtain rfl : j = 0 := (by omega); exact Int32.not_le.mp g⟩
      · rw [if_neg g, f_X11_calmest_110, fin']; rfl
      · rcases (by omega : j = 0 ∨ j = 1) with rfl | rfl
        · exact fun z => absurd (Int32.le_of_lt z) (fun y => g y)
        · exact Int32.lt_irrefl
theorem i32_nle {x y : Int32} (h : ¬ x ≤ y) : y < x := Int32.not_le.mp h
/-- what the weakest step is -/
theorem rWk_spec (n r : Nat) (a b c : Int32) : ∀ k, (∀ j, j ≤ k → eE n (rF n r (rWk n r a b c k)) a b c ≤ eE n (rF n r j) a b c) ∧ ∀ j, j < rWk n r a b c k → eE n (rF n r (rWk n r a b c k)) a b c < eE n (rF n r j) a b c
  | 0 => ⟨fun j hj => by obtain rfl : j = 0 := (by omega); exact Int32.le_refl _, fun j hj => absurd hj (Nat.not_lt_zero _)⟩
  | k + 1 => by
    obtain ⟨h1, h2⟩ := rWk_spec n r a b c k
    rw [rWk]
    by_cases g : eE n (rF n r (rWk n r a b c k)) a b c ≤ eE n (rF n r (k + 1)) a b c
    · rw [if_pos g]
      refine ⟨fun j hj => ?_, h2⟩
      by_cases q : j = k + 1
      · rw [q]; exact g
      · exact h1 j (by omega)
    · rw [if_neg g]
      have g' := i32_nle g
      refine ⟨fun j hj => ?_, fun j hj => Int32.lt_of_lt_of_le g' (h1 j (by omega))⟩
      by_cases q : j = k + 1
      · rw [q]; exact Int32.le_refl _
      · exact Int32.le_trans (Int32.le_of_lt g') (h1 j (by omega))
theorem v_bf_55 (h : SVx c N R L W) (hs : s < c) (t a1 a2 a3 : Int32) : ∀ (f k b : Nat), 1 ≤ b → b < k → k ≤ N s → N s - k < f → (∀ j, 1 ≤ j → j < k → eE (N s) (rO (N s) (R s) b) a1 a2 a3 ≤ eE (N s) (rO (N s) (R s) j) a1 a2 a3) →
    ∃ b', 1 ≤ b' ∧ b' < N s ∧ f_X11_bestFault_55 f (nI (R s)) (nI (N s)) (nI b) (eE (N s) (rO (N s) (R s) b) a1 a2 a3) (nI k) t (nI c) a1 a2 a3 L W = some (nI b', 0) ∧ ∀ j, 1 ≤ j → j < N s → eE (N s) (rO (N s) (R s) b') a1 a2 a3 ≤ eE (N s) (rO (N s) (R s) j) a1 a2 a3
  | 0, _, _, _, _, _, hf, _ => absurd hf (Nat.not_lt_zero _)
  | f + 1, k, b, h1, hb, hk, hf, hm => by
    have n12 := sv_2 h hs
    rw [f_X11_bestFault_55]
    by_cases q : N s ≤ k
    · have e : k = N s := by omega
      subst e
      rw [if_pos (Int32.le_refl _), f_X11_granted, bd_s]
      exact ⟨b, h1, hb, rfl, hm⟩
    · rw [if_neg (nI_ge (by omega) (by omega)), x8_otherFrom n12 hk, bd_s, x4_energyOf (sv_1 h hs) n12 (rO_lt (sv_R h hs)), bd_s]
      by_cases g : eE (N s) (rO (N s) (R s) b) a1 a2 a3 ≤ eE (N s) (rO (N s) (R s) k) a1 a2 a3
      · rw [if_pos g, f_X11_bestFault_93, nI_1]
        exact v_bf_55 h hs t a1 a2 a3 f (k + 1) b h1 (by omega) (by omega) (by omega) (fun j j1 j2 => by
          by_cases z : j = k
          · rw [z]; exact g
          · exact hm j j1 (by omega))
      · rw [if_neg g, f_X11_bestFault_93, nI_1]
        have g' := i32_nle g
        exact v_bf_55 h hs t a1 a2 a3 f (k + 1) k (by omega) (by omega) (by omega) (by omega) (fun j j1 j2 => by
          by_cases z : j = k
          · rw [z]; exact Int32.le_refl _
          · exact Int32.le_trans (Int32.le_of_lt g') (hm j j1 (by omega)))
theorem v_bestFault (h : SVx c N R L W) (hs : s < c) (t a1 a2 a3 : Int32) : ∃ b', 1 ≤ b' ∧ b' < N s ∧ f_X11_bestFault (nI s) t (nI c) a1 a2 a3 L W = some (nI b', 0) ∧ ∀ j, 1 ≤ j → j < N s → eE (N s) (rO (N s) (R s) b') a1 a2 a3 ≤ eE (N s) (rO (N s) (R s) j) a1 a2 a3 := by
  have n12 := sv_2 h hs
  have n2 := (h.2 s hs).1
  obtain ⟨b', b1, b2, b3, b4⟩ := v_bf_55 h hs t a1 a2 a3 kFU 2 1 (by decide) (by decide) n2 (by unfold kFU; omega) (fun j j1 j2 => by obtain rfl : j = 1 := (by omega); exact Int32.le_refl _)
  refine ⟨b', b1, b2, ?_, b4⟩
  have e1 : f_X8_otherFrom (nI (R s)) (nI (N s)) (1 : Int32) = some (nI (rO (N s) (R s) 1)) := x8_otherFrom (k := 1) n12 (by omega)
  simp only [f_X11_bestFault, sv_l h hs, sv_r h hs, sv_n h hs, bd_s, if_true, e1, x4_energyOf (sv_1 h hs) n12 (rO_lt (sv_R h hs))]
  exact b3
end VPAIR
