/-! THE LAW'S LOOPS OVER ONE STACK, further out -/
section W2
variable {c g ua ga A : Nat} {a1 a2 a3 : Int32} {N R N0 R0 : Nat → Nat} {cL : Nat} {cX : Nat → Int32} {w_bb w_m w_v : Nat → Int32} {σ : k_SB}
theorem d_1020 {k286 : Int32 → (Nat → Int32) → (Nat → Int32) → (Nat → Int32) → k_SB → Option (Int32)} {k305 : Int32 → Int32 → Int32 → (Nat → Int32) → (Nat → Int32) → (Nat → Int32) → k_SB → Option (Int32)} (hC : JC c g a1 a2 a3) (hB : BB w_bb c ua a1 a2 a3 N0 R0) {s : Nat} (hs : s < c) {x5 x6 : Int32} (K : ∀ σ, JJ c g ua ga A a1 a2 a3 N R N0 R0 σ → k305 x5 x6 (nI s + 1) w_bb w_m w_v σ = some 1) : ∀ (f k : Nat) (σ : k_SB), (1 ≤ k ∧ k ≤ N s) → N s - k < f → JJ c g ua ga A a1 a2 a3 N R N0 R0 σ → f_L_law_1020 cL cX k286 k305 f x5 x6 (nI s) (nI (N s)) (nI (R s)) (eE (N s) (R s) a1 a2 a3) (nI k) w_bb w_m w_v σ = some 1
  | 0, _, _, _, hf, _ => absurd hf (Nat.not_lt_zero _)
  | f + 1, k, σ, hu, hf, hJ => by
    have cb := JC_2 hC
    have hc2 := hC.2.1
    obtain ⟨n2, n12, nr⟩ := JJ_s hJ hs
    have rl : R s < 4096 := Nat.lt_of_lt_of_le nr (Nat.pow_le_pow_right (by decide) n12)
    rw [f_L_law_1020]
    by_cases q : k = N s
    · rw [q, if_pos (Int32.le_refl _)]
      refine bz (z_differs hC hJ hs hs (fun m _ _ => rfl)) fun o σ v hJ => ?_
      rw [v]
      rw [if_pos rfl]
      refine bz (z_same hC hJ hs) fun o σ v hJ => ?_
      rw [v]
      rw [if_pos rfl]
      obtain ⟨y, p, z⟩ := z_pass hC hJ hs hs rfl
      refine bz (z) fun o σ v hJ => ?_
      rw [v]
      obtain rfl : y = eE (N s) (R s) a1 a2 a3 := PSP_eq p (PSP_self _ _ _)
      rw [if_pos rfl]
      obtain ⟨y, p, z⟩ := z_valley hC hJ hs
      refine bz (z) fun o σ v hJ => ?_
      rw [v]
      rw [if_pos (show (1 : Int32) ≤ nI y from nI_le (a := 1) p.1 (by omega)), ← nI_0]
      exact d_1111 hC hB hs K kFU 0 σ (Nat.zero_le _) (by unfold kFU; omega) hJ
    · have hk : k < N s := by omega
      rw [if_neg (nI_ge hk (by omega))]
      refine bz (z_faultEnergy hC hJ hs hu.1 hk) fun o σ v hJ => ?_
      rw [v]
      obtain ⟨y, p, z⟩ := z_bestFault hC hJ hs
      refine bz (z) fun o σ v hJ => ?_
      rw [v]
      refine bz (z_faultEnergy hC hJ hs p.1 p.2.1) fun o σ v hJ => ?_
      rw [v]
      rw [if_pos (p.2.2 k hu.1 hk), nI_1]
      exact d_1020 hC hB hs K f (k + 1) σ (by omega) (by omega) hJ
theorem d_957 {k286 : Int32 → (Nat → Int32) → (Nat → Int32) → (Nat → Int32) → k_SB → Option (Int32)} {k305 : Int32 → Int32 → Int32 → (Nat → Int32) → (Nat → Int32) → (Nat → Int32) → k_SB → Option (Int32)} (hC : JC c g a1 a2 a3) (hB : BB w_bb c ua a1 a2 a3 N0 R0) {s : Nat} (hs : s < c) {x5 x6 : Int32} (K : ∀ σ, JJ c g ua ga A a1 a2 a3 N R N0 R0 σ → k305 x5 x6 (nI s + 1) w_bb w_m w_v σ = some 1) : ∀ (f k : Nat) (σ : k_SB), k ≤ N s → N s - k < f → JJ c g ua ga A a1 a2 a3 N R N0 R0 σ → f_L_law_957 cL cX k286 k305 f x5 x6 (nI s) (nI (N s)) (nI (R s)) (eE (N s) (R s) a1 a2 a3) (nI (rWk (N s) (R s) a1 a2 a3 (N s - 1))) (nI k) w_bb w_m w_v σ = some 1
  | 0, _, _, _, hf, _ => absurd hf (Nat.not_lt_zero _)
  | f + 1, k, σ, hu, hf, hJ => by
    have cb := JC_2 hC
    have hc2 := hC.2.1
    obtain ⟨n2, n12, nr⟩ := JJ_s hJ hs
    have rl : R s < 4096 := Nat.lt_of_lt_of_le nr (Nat.pow_le_pow_right (by decide) n12)
    rw [f_L_law_957]
    by_cases q : k = N s
    · rw [q, if_pos (Int32.le_refl _)]
      exact d_1020 hC hB hs K kFU 1 σ (by omega) (by unfold kFU; omega) hJ
    · have hk : k < N s := by omega
      rw [if_neg (nI_ge hk (by omega))]
      have wl := rWk_le (N s) (R s) a1 a2 a3 (N s - 1)
      obtain ⟨ws1, ws2⟩ := rWk_spec (N s) (R s) a1 a2 a3 (N s - 1)
      have wk : rWk (N s) (R s) a1 a2 a3 (N s - 1) < N s := by omega
      have ih : ∀ σ, JJ c g ua ga A a1 a2 a3 N R N0 R0 σ → f_L_law_1011 cL cX k286 k305 (fun x5 x6 x7 x8 x9 x12 x15 x17 w_bb w_m w_v σ => f_L_law_957 cL cX k286 k305 f x5 x6 x7 x8 x9 x12 x15 x17 w_bb w_m w_v σ) x5 x6 (nI s) (nI (N s)) (nI (R s)) (eE (N s) (R s) a1 a2 a3) (nI (rWk (N s) (R s) a1 a2 a3 (N s - 1))) (nI k) w_bb w_m w_v σ = some 1 := fun σ hJ => by
        rw [f_L_law_1011, nI_1]
        exact d_957 hC hB hs K f (k + 1) σ (by omega) (by omega) hJ
      refine bz (z_slipEnergy hC hJ hs hk) fun o σ v hJ => ?_
      rw [v]
      refine bz (z_slipEnergy hC hJ hs wk) fun o σ v hJ => ?_
      rw [v]
      rw [if_neg (fun z => absurd (Int32.lt_of_lt_of_le z (ws1 k (by omega))) Int32.lt_irrefl)]
      by_cases z : rWk (N s) (R s) a1 a2 a3 (N s - 1) ≤ k
      · rw [if_pos (nI_le z (by omega))]
        exact ih σ hJ
      · rw [if_neg (nI_ge (Nat.lt_of_not_le z) (by omega))]
        refine bz (z_slipEnergy hC hJ hs hk) fun o σ v hJ => ?_
        rw [v]
        refine bz (z_slipEnergy hC hJ hs wk) fun o σ v hJ => ?_
        rw [v]
        refine ifn (fun y => ?_) (ih σ hJ)
        have l := ws2 k (Nat.lt_of_not_le z)
        rw [y] at l
        exact absurd l Int32.lt_irrefl
/-- the lines up to the first that does not go out; then what relaxes -/
theorem d_833 {k286 : Int32 → (Nat → Int32) → (Nat → Int32) → (Nat → Int32) → k_SB → Option (Int32)} {k305 : Int32 → Int32 → Int32 → (Nat → Int32) → (Nat → Int32) → (Nat → Int32) → k_SB → Option (Int32)} (hC : JC c g a1 a2 a3) (hB : BB w_bb c ua a1 a2 a3 N0 R0) {s : Nat} (hs : s < c) {x5 x6 : Int32} (K : ∀ σ, JJ c g ua ga A a1 a2 a3 N R N0 R0 σ → k305 x5 x6 (nI s + 1) w_bb w_m w_v σ = some 1) {x14 : Int32} {M : Nat} (hM : (x14 ≤ 1 ∧ M = 1) ∨ (1 ≤ M ∧ M < rRep (N s) (R s) ∧ x14 = nI M ∧ ∀ j, 1 ≤ j → j < M → lO (N s) (R s) j = 1)) : ∀ (f k : Nat) (σ : k_SB), (1 ≤ k ∧ k ≤ M) → M - k < f → JJ c g ua ga A a1 a2 a3 N R N0 R0 σ → f_L_law_833 cL cX k286 k305 f x5 x6 (nI s) (nI (N s)) (nI (R s)) (eE (N s) (R s) a1 a2 a3) x14 (nI k) w_bb w_m w_v σ = some 1
  | 0, _, _, _, hf, _ => absurd hf (Nat.not_lt_zero _)
  | f + 1, k, σ, hu, hf, hJ => by
    have cb := JC_2 hC
    have hc2 := hC.2.1
    obtain ⟨n2, n12, nr⟩ := JJ_s hJ hs
    have rl : R s < 4096 := Nat.lt_of_lt_of_le nr (Nat.pow_le_pow_right (by decide) n12)
    rw [f_L_law_833]
    by_cases q : k = M
    · rw [q, if_pos (show x14 ≤ nI M by
        rcases hM with h | h
        · rw [h.2]; exact h.1
        · rw [h.2.2.1]; exact Int32.le_refl _)]
      obtain ⟨r', S', e, e1, e2, e3, e4, e5⟩ := v_settle (a := a1) (b := a2) (c := a3) (show 1 ≤ N s by omega) n12 nr
      have wl := rWk_le (N s) (R s) a1 a2 a3 (N s - 1)
      have wk : rWk (N s) (R s) a1 a2 a3 (N s - 1) < N s := by omega
      have rl' : r' < 4096 := Nat.lt_of_lt_of_le e1 (Nat.pow_le_pow_right (by decide) n12)
      refine bz (z_weakest hC hJ hs) fun o σ v hJ => ?_
      rw [v]
      refine bz (z_relaxed hC hJ hs e) fun o σ v hJ => ?_
      rw [v]
      rw [l_energy (by omega) n12 e1, bd_s, hB.2.2.1, hB.2.2.2.1, hB.2.2.2.2.1]
      refine ifn (fun z => absurd (Int32.lt_of_lt_of_le z e3) Int32.lt_irrefl) ?_
      have go := fun σ hJ => d_957 (cL := cL) (cX := cX) (k286 := k286) hC hB hs K kFU 0 σ (Nat.zero_le _) (by unfold kFU; omega) hJ
      rw [nI_0] at go
      refine bz (z_relax hC hJ hs e) fun o σ v hJ => ?_
      rw [v]
      by_cases z : S' = 0
      · have zz := e4.mp z
        rw [z, if_pos (show nI 0 = 0 from nI_0), f_L_law_902]
        refine bz (z_slipEnergy hC hJ hs wk) fun o σ v hJ => ?_
        rw [v]
        rw [if_neg (fun y => absurd (Int32.lt_of_lt_of_le y zz) Int32.lt_irrefl), f_L_law_920, if_pos rfl, e5.mpr z, if_pos rfl, f_L_law_935]
        refine bz (z_relax hC hJ hs e) fun o σ v hJ => ?_
        rw [v]
        rw [z, if_pos (show nI 0 = 0 from nI_0), f_L_law_949, if_pos rfl]
        exact go σ hJ
      · rw [if_neg (nI_ne0 (by omega) (by omega)), f_L_law_902]
        refine bz (z_slipEnergy hC hJ hs wk) fun o σ v hJ => ?_
        rw [v]
        rw [if_pos (Int32.not_le.mp (fun y => z (e4.mpr y))), f_L_law_920, if_pos rfl, if_neg (fun y => z (e5.mp ((nI_eq (by omega) (by omega)).mp y))), f_L_law_935]
        refine bz (z_relax hC hJ hs e) fun o σ v hJ => ?_
        rw [v]
        rw [if_neg (nI_ne0 (by omega) (by omega)), f_L_law_949, if_pos rfl]
        exact go σ hJ
    · rcases hM with h | ⟨m1, m2, m3, m4⟩
      · omega
      · have rp := rRep_le (n := N s) (r := R s) n12
        rw [m3, if_neg (nI_ge (show k < M by omega) (by omega))]
        refine bz (z_out hC hJ hs (show k < rRep (N s) (R s) by omega)) fun o σ v hJ => ?_
        rw [v]
        rw [m4 k hu.1 (by omega), if_neg nI1_ne, nI_1, ← m3]
        exact d_833 hC hB hs K (Or.inr ⟨m1, m2, m3, m4⟩) f (k + 1) σ (by omega) (by omega) hJ
theorem sm_low {f : Nat → Nat} (h1 : ∀ k, f k ≤ 1) : ∀ K, sm f K ≤ K ∧ ∀ l, l < K → f l = 0 → sm f K < K
  | 0 => ⟨Nat.le_refl _, fun l h => absurd h (Nat.not_lt_zero _)⟩
  | K + 1 => by
    obtain ⟨i1, i2⟩ := sm_low h1 K
    have := h1 K
    rw [sm]
    refine ⟨by omega, fun l hl h => ?_⟩
    by_cases q : l = K
    · rw [← q, h]; rw [← q] at i1; omega
    · have := i2 l (by omega) h
      omega
theorem d_754 {k286 : Int32 → (Nat → Int32) → (Nat → Int32) → (Nat → Int32) → k_SB → Option (Int32)} {k305 : Int32 → Int32 → Int32 → (Nat → Int32) → (Nat → Int32) → (Nat → Int32) → k_SB → Option (Int32)} (hC : JC c g a1 a2 a3) (hB : BB w_bb c ua a1 a2 a3 N0 R0) {s : Nat} (hs : s < c) {x5 x6 : Int32} (K : ∀ σ, JJ c g ua ga A a1 a2 a3 N R N0 R0 σ → k305 x5 x6 (nI s + 1) w_bb w_m w_v σ = some 1) : ∀ (f k : Nat) (σ : k_SB), k ≤ rRep (N s) (R s) → rRep (N s) (R s) - k < f → JJ c g ua ga A a1 a2 a3 N R N0 R0 σ → f_L_law_754 cL cX k286 k305 f x5 x6 (nI s) (nI (N s)) (nI (R s)) (nI (rRep (N s) (R s))) (eE (N s) (R s) a1 a2 a3) (nI (sm (lO (N s) (R s)) k)) (nI k) w_bb w_m w_v σ = some 1
  | 0, _, _, _, hf, _ => absurd hf (Nat.not_lt_zero _)
  | f + 1, k, σ, hu, hf, hJ => by
    have cb := JC_2 hC
    have hc2 := hC.2.1
    obtain ⟨n2, n12, nr⟩ := JJ_s hJ hs
    have rl : R s < 4096 := Nat.lt_of_lt_of_le nr (Nat.pow_le_pow_right (by decide) n12)
    have rp := rRep_le (n := N s) (r := R s) n12
    rw [f_L_law_754]
    by_cases q : k = rRep (N s) (R s)
    · rw [q, if_pos (Int32.le_refl _)]
      obtain ⟨l, l1, l2⟩ := ln_not (show 1 ≤ N s by omega) n12 nr
      have sl := (sm_low (lO_le (N s) (R s)) (rRep (N s) (R s))).2 l l1 l2
      obtain ⟨y, p, z⟩ := z_first hC hJ hs
      refine bz (z) fun o σ v hJ => ?_
      rw [v]
      refine bz (z_outs hC hJ hs) fun o σ v hJ => ?_
      rw [v]
      rw [if_pos rfl, if_neg (nI_ge sl (by omega))]
      rcases p with rfl | ⟨M, m1, m2, rfl, m4, m5⟩
      · rw [if_neg (by decide), if_pos (by decide), f_L_law_830]
        exact d_833 hC hB hs K (Or.inl ⟨by decide, rfl⟩) kFU 1 σ (by decide) (by unfold kFU; omega) hJ
      · rw [if_neg (nI_ne0 m1 (by omega)), if_neg (nI_nle m1 (by omega))]
        refine bz (z_out hC hJ hs m2) fun o σ v hJ => ?_
        rw [v]
        rw [m4, if_neg (by decide), f_L_law_830]
        exact d_833 hC hB hs K (Or.inr ⟨m1, m2, rfl, m5⟩) kFU 1 σ ⟨Nat.le_refl _, m1⟩ (by unfold kFU; omega) hJ
    · have hk : k < rRep (N s) (R s) := by omega
      rw [if_neg (nI_ge hk (by omega))]
      refine bz (z_out hC hJ hs hk) fun o σ v hJ => ?_
      rw [v]
      rw [lt_q, nI_add, nI_1]
      exact d_754 hC hB hs K f (k + 1) σ (by omega) (by omega) hJ
theorem pk_sub' {a b : Nat} (h : b ≤ a) : nI a - nI b = nI (a - b) := by
  have := nI_subadd (a := a) (b := b) (c := 0) (by omega)
  rw [Nat.add_zero] at this
  rw [← this, nI_0, Int32.add_zero]
theorem Ag_top (n r m : Nat) : Ag n r m ≤ rRep n r := by
  show rAg n r m (rRep n r) ≤ _
  rw [rAg_sm]
  exact (sm_low (f := ag1 n r m) (fun k => by unfold ag1; split <;> decide) _).1
theorem d_603 {k286 : Int32 → (Nat → Int32) → (Nat → Int32) → (Nat → Int32) → k_SB → Option (Int32)} {k305 : Int32 → Int32 → Int32 → (Nat → Int32) → (Nat → Int32) → (Nat → Int32) → k_SB → Option (Int32)} (hC : JC c g a1 a2 a3) (hB : BB w_bb c ua a1 a2 a3 N0 R0) {s : Nat} (hs : s < c) {x5 x6 : Int32} (K : ∀ σ, JJ c g ua ga A a1 a2 a3 N R N0 R0 σ → k305 x5 x6 (nI s + 1) w_bb w_m w_v σ = some 1) : ∀ (f k : Nat) (σ : k_SB), (1 ≤ k ∧ k ≤ rRep (N s) (R s)) → rRep (N s) (R s) - k < f → JJ c g ua ga A a1 a2 a3 N R N0 R0 σ → f_L_law_603 cL cX k286 k305 f x5 x6 (nI s) (nI (N s)) (nI (R s)) (nI (rRep (N s) (R s))) (nI k) w_bb w_m w_v σ = some 1
  | 0, _, _, _, hf, _ => absurd hf (Nat.not_lt_zero _)
  | f + 1, k, σ, hu, hf, hJ => by
    have cb := JC_2 hC
    have hc2 := hC.2.1
    obtain ⟨n2, n12, nr⟩ := JJ_s hJ hs
    have rl : R s < 4096 := Nat.lt_of_lt_of_le nr (Nat.pow_le_pow_right (by decide) n12)
    have rp := rRep_le (n := N s) (r := R s) n12
    have rn : N s ≤ rRep (N s) (R s) := by unfold rRep; split <;> omega
    have n1 : 1 ≤ N s := by omega
    rw [f_L_law_603]
    by_cases q : k = rRep (N s) (R s)
    · rw [q, if_pos (Int32.le_refl _)]
      refine bz (z_agree hC hJ hs (show 1 ≤ rRep (N s) (R s) by omega) rp) fun o σ v hJ => ?_
      rw [v]
      rw [Ag_all n1 n12 nr, if_pos rfl]
      refine bz (z_agree hC hJ (k := 1) hs (by decide) (by decide)) fun o σ v hJ => ?_
      rw [v]
      rw [Ag_1, if_pos (show nI 0 = 0 from nI_0)]
      refine bz (z_agree hC hJ (k := 2) hs (by decide) (by decide)) fun o σ v hJ => ?_
      rw [v]
      refine bz (z_st4 hC hJ hs) fun o σ v hJ => ?_
      rw [v]
      rw [nI_mul, nI_mul, Ag_2 n1 n12 nr, if_pos rfl]
      refine bz (z_energy hC hJ hs) fun o σ v hJ => ?_
      rw [v]
      refine bz (z_ground hC hJ n2 n12) fun o σ v hJ => ?_
      rw [v]
      refine ifn (fun z => absurd (Int32.lt_of_lt_of_le z (gE_r nr)) Int32.lt_irrefl) ?_
      obtain ⟨y, ⟨p1, p2, p3⟩, z⟩ := z_calmest hC hJ
      refine bz (z) fun o σ v hJ => ?_
      rw [v]
      refine bz (z_st0 hC hJ p1) fun o σ v hJ => ?_
      rw [v]
      obtain ⟨y', ⟨p1', p2', p3'⟩, z⟩ := z_calmest hC hJ
      obtain rfl : y = y' := by
        rcases Nat.lt_trichotomy y y' with h | h | h
        · exact absurd (p3' y h) (p2 y' p1')
        · exact h
        · exact absurd (p3 y' h) (p2' y p1)
      refine bz (z) fun o σ v hJ => ?_
      rw [v]
      refine bz (z_energy hC hJ p1) fun o σ v hJ => ?_
      rw [v]
      rw [if_pos (Int32.not_lt.mp (p2 s hs))]
      have go := d_754 (cL := cL) (cX := cX) (k286 := k286) hC hB hs K kFU 0 σ (Nat.zero_le _) (by unfold kFU; omega) hJ
      exact go
    · have hk : k < rRep (N s) (R s) := by omega
      rw [if_neg (nI_ge hk (by omega))]
      refine bz (z_agree hC hJ hs hu.1 (by omega)) fun o σ v hJ => ?_
      rw [v]
      rw [pk_sub' (Nat.le_of_lt hk)]
      refine bz (z_agree hC hJ hs (show 1 ≤ rRep (N s) (R s) - k by omega) (by omega)) fun o σ v hJ => ?_
      rw [v]
      rw [← Ag_back n1 n12 nr (Nat.le_of_lt hk), if_pos rfl]
      refine bz (z_agree hC hJ hs hu.1 (by omega)) fun o σ v hJ => ?_
      rw [v]
      rw [if_pos (nI_le (Ag_top _ _ _) (by omega)), nI_1]
      exact d_603 hC hB hs K f (k + 1) σ (by omega) (by omega) hJ
end W2
