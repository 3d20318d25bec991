/-! THE LAW'S LOOPS OVER ONE STACK, from within: each ends well -/
section W1
variable {c g ua ga A : Nat} {a1 a2 a3 : Int32} {N R N0 R0 : Nat → Nat} {cL : Nat} {cX : Nat → Int32} {w_bb w_m w_v : Nat → Int32} {σ : k_SB}
theorem nI_mul (a b : Nat) : nI a * nI b = nI (a * b) := (Int32.ofNat_mul a b).symm
theorem b4r : (4 : Int32).toNatClampNeg = 4 := by decide
theorem jN (hJ : JJ c g ua ga A a1 a2 a3 N R N0 R0 σ) : ∃ L W, SVx c N R L W := ⟨_, _, hJ.2.2.2.2⟩
theorem JJ_s (hJ : JJ c g ua ga A a1 a2 a3 N R N0 R0 σ) {s : Nat} (hs : s < c) : 2 ≤ N s ∧ N s ≤ 12 ∧ R s < 2 ^ N s := ⟨(hJ.2.2.2.2.2 s hs).1, (hJ.2.2.2.2.2 s hs).2.1, (hJ.2.2.2.2.2 s hs).2.2.1⟩
theorem JC_2 (hC : JC c g a1 a2 a3) : c < 2 ^ 31 := by have := hC.2.1; omega
theorem d_1389 {k286 : Int32 → (Nat → Int32) → (Nat → Int32) → (Nat → Int32) → k_SB → Option (Int32)} {k305 : Int32 → Int32 → Int32 → (Nat → Int32) → (Nat → Int32) → (Nat → Int32) → k_SB → Option (Int32)} (hC : JC c g a1 a2 a3) (hB : w_bb 4 = nI c) {s : Nat} (hs : s < c) {x5 x6 : Int32} (K : ∀ σ, JJ c g ua ga A a1 a2 a3 N R N0 R0 σ → k305 x5 x6 (nI s + 1) w_bb w_m w_v σ = some 1) : ∀ (f u : Nat) (σ : k_SB), u ≤ c → c - u < f → JJ c g ua ga A a1 a2 a3 N R N0 R0 σ → f_L_law_1389 cL cX k286 k305 f x5 x6 (nI s) (nI (N s)) (eE (N s) (R s) a1 a2 a3) (nI u) w_bb w_m w_v σ = some 1
  | 0, _, _, _, hf, _ => absurd hf (Nat.not_lt_zero _)
  | f + 1, u, σ, hu, hf, hJ => by
    have cb := JC_2 hC
    rw [f_L_law_1389, gd_t _ (by decide), b4r, hB]
    by_cases q : u = c
    · rw [q, if_pos (Int32.le_refl _)]; exact K σ hJ
    · have hu' : u < c := by omega
      rw [if_neg (nI_ge hu' cb)]
      obtain ⟨n2, n12, nr⟩ := JJ_s hJ hs
      obtain ⟨m2, m12, mr⟩ := JJ_s hJ hu'
      refine bz (z_st0 hC hJ hu') fun o σ v hJ => ?_
      rw [v]
      have ih : ∀ σ, JJ c g ua ga A a1 a2 a3 N R N0 R0 σ → f_L_law_1455 cL cX k286 k305 (fun x5 x6 x7 x8 x12 x17 w_bb w_m w_v σ => f_L_law_1389 cL cX k286 k305 f x5 x6 x7 x8 x12 x17 w_bb w_m w_v σ) x5 x6 (nI s) (nI (N s)) (eE (N s) (R s) a1 a2 a3) (nI u) w_bb w_m w_v σ = some 1 := fun σ hJ => by
        rw [f_L_law_1455, nI_1]
        exact d_1389 hC hB hs K f (u + 1) σ (by omega) (by omega) hJ
      by_cases e : N u = N s
      · rw [e, if_pos rfl]
        rw [e] at mr
        obtain ⟨y, p, z⟩ := z_pass hC hJ hs hu' e
        refine bz (z) fun o σ v hJ => ?_
        rw [v]
        obtain ⟨y', p', z⟩ := z_pass hC hJ hu' hs e.symm
        rw [e] at p'
        refine bz (z) fun o σ v hJ => ?_
        rw [v]
        obtain rfl : y = y' := PSP_eq p (PSP_sym mr nr p')
        have ml := mxE_le (fun j => eE (N s) j a1 a2 a3) (R s) (R u)
        rw [if_pos rfl]
        refine ifn (fun z => absurd (Int32.lt_of_lt_of_le z (Int32.le_trans ml.1 p.2.1)) Int32.lt_irrefl) ?_
        refine bz (z_energy hC hJ hu') fun o σ v hJ => ?_
        rw [v]
        rw [e]
        refine ifp (Int32.le_trans ml.2.1 p.2.1) ?_
        exact ih σ hJ
      · rw [if_neg (fun z => e ((nI_eq (by omega) (by omega)).mp z))]
        exact ih σ hJ
theorem KIN_all {n r t x : Nat} (h2 : 2 ≤ n) (h12 : n ≤ 12) (hr : r < 2 ^ n) (ht : t < 2 ^ n) (hx : x < 4) (h : rLA n r x 4 = rLA n t x 4) (a b d : Int32) : eE n t a b d = eE n r a b d ∧ rRep n t = rRep n r ∧ ∀ m, rAg n t m (rRep n t) = rAg n r m (rRep n r) := by
  have k := KIN_alike (show 1 ≤ n by omega) h12 hr ht hx h
  exact ⟨KIN_E (by omega) h12 hr k, KIN_R (by omega) h12 hr k, KIN_A (by omega) h12 hr k⟩
theorem d_1215 {k286 : Int32 → (Nat → Int32) → (Nat → Int32) → (Nat → Int32) → k_SB → Option (Int32)} {k305 : Int32 → Int32 → Int32 → (Nat → Int32) → (Nat → Int32) → (Nat → Int32) → k_SB → Option (Int32)} {k1111 : Int32 → Int32 → Int32 → Int32 → Int32 → Int32 → Int32 → (Nat → Int32) → (Nat → Int32) → (Nat → Int32) → k_SB → Option (Int32)} (hC : JC c g a1 a2 a3) (hB : w_bb 4 = nI c) {s x : Nat} (hs : s < c) (hx : x < 4) {x5 x6 : Int32} (K : ∀ σ, JJ c g ua ga A a1 a2 a3 N R N0 R0 σ → k1111 x5 x6 (nI s) (nI (N s)) (nI (R s)) (eE (N s) (R s) a1 a2 a3) (nI x + 1) w_bb w_m w_v σ = some 1) : ∀ (f u : Nat) (σ : k_SB), u ≤ c → c - u < f → JJ c g ua ga A a1 a2 a3 N R N0 R0 σ → f_L_law_1215 cL cX k286 k305 k1111 f x5 x6 (nI s) (nI (N s)) (nI (R s)) (eE (N s) (R s) a1 a2 a3) (nI x) (nI (rLA (N s) (R s) x 4)) (nI u) w_bb w_m w_v σ = some 1
  | 0, _, _, _, hf, _ => absurd hf (Nat.not_lt_zero _)
  | f + 1, u, σ, hu, hf, hJ => by
    have cb := JC_2 hC
    rw [f_L_law_1215, gd_t _ (by decide), b4r, hB]
    by_cases q : u = c
    · rw [q, if_pos (Int32.le_refl _)]; exact K σ hJ
    · have hu' : u < c := by omega
      rw [if_neg (nI_ge hu' cb)]
      obtain ⟨n2, n12, nr⟩ := JJ_s hJ hs
      obtain ⟨m2, m12, mr⟩ := JJ_s hJ hu'
      have ih : ∀ σ, JJ c g ua ga A a1 a2 a3 N R N0 R0 σ → f_L_law_1374 cL cX k286 k305 k1111 (fun x5 x6 x7 x8 x9 x12 x17 x18 x19 w_bb w_m w_v σ => f_L_law_1215 cL cX k286 k305 k1111 f x5 x6 x7 x8 x9 x12 x17 x18 x19 w_bb w_m w_v σ) x5 x6 (nI s) (nI (N s)) (nI (R s)) (eE (N s) (R s) a1 a2 a3) (nI x) (nI (rLA (N s) (R s) x 4)) (nI u) w_bb w_m w_v σ = some 1 := fun σ hJ => by
        rw [f_L_law_1374, nI_1]
        exact d_1215 hC hB hs hx K f (u + 1) σ (by omega) (by omega) hJ
      by_cases e : N u = N s
      · have mr' : R u < 2 ^ N s := by rw [← e]; exact mr
        refine bz (z_slips1 hC hJ hs hu' hx e) fun o σ v hJ => ?_
        rw [v]
        refine bz (z_slips1 hC hJ hu' hs hx e.symm) fun o σ v hJ => ?_
        rw [v]
        rw [e, rDa_sym (by omega) n12 mr' nr hx, if_pos rfl]
        have D := rDa_0 n2 n12 nr mr' hx
        have dl : rDa (N s) (R s) (R u) x (N s) 4 ≤ N s := rDa_le _
        by_cases d : rLA (N s) (R s) x 4 = rLA (N s) (R u) x 4
        · rw [D.mpr d, if_pos (show nI 0 = 0 from nI_0), f_L_law_1260]
          refine bz (z_alike1 hC hJ hs hu' hx e) fun o σ v hJ => ?_
          rw [v]
          rw [if_pos d, if_pos rfl, f_L_law_1279, if_pos rfl, if_pos (show (0 : Int32) ≤ nI 0 by decide), f_L_law_1292]
          refine bz (z_st0 hC hJ hu') fun o σ v hJ => ?_
          rw [v]
          rw [e, if_pos rfl, f_L_law_1309, if_pos rfl, if_pos (nI_le (Nat.zero_le _) (by omega))]
          refine bz (z_alike1 hC hJ hs hu' hx e) fun o σ v hJ => ?_
          rw [v]
          rw [if_pos d, if_pos rfl]
          refine bz (z_least hC hJ hu' hx) fun o σ v hJ => ?_
          rw [v]
          obtain ⟨k1, k2, k3⟩ := KIN_all n2 n12 nr mr' hx d a1 a2 a3
          rw [e, ← d, if_pos rfl]
          refine bz (z_energy hC hJ hu') fun o σ v hJ => ?_
          rw [v]
          rw [e, k1, if_pos rfl]
          refine bz (z_differs hC hJ hs hu' (fun m _ _ => by rw [e, k3 m, k2])) fun o σ v hJ => ?_
          rw [v]
          rw [if_pos rfl]
          exact ih σ hJ
        · have d0 : rDa (N s) (R s) (R u) x (N s) 4 ≠ 0 := fun z => d (D.mp z)
          rw [if_neg (nI_ne0 (by omega) (by omega)), f_L_law_1260]
          refine bz (z_alike1 hC hJ hs hu' hx e) fun o σ v hJ => ?_
          rw [v]
          rw [if_neg d, if_neg (show ¬ (0 : Int32) = 1 by decide), f_L_law_1279, if_pos rfl, if_pos (nI_pos' (by omega)), f_L_law_1292]
          refine bz (z_st0 hC hJ hu') fun o σ v hJ => ?_
          rw [v]
          rw [e, if_pos rfl, f_L_law_1309, if_pos rfl, if_pos (nI_le dl (by omega))]
          refine bz (z_alike1 hC hJ hs hu' hx e) fun o σ v hJ => ?_
          rw [v]
          rw [if_neg d, if_neg (show ¬ (0 : Int32) = 1 by decide)]
          exact ih σ hJ
      · 
        refine bz (z_slips0 hC hJ hs hu' hx e) fun o σ v hJ => ?_
        rw [v]
        refine bz (z_slips0 hC hJ hu' hs hx (fun z => e z.symm)) fun o σ v hJ => ?_
        rw [v]
        rw [if_pos rfl, if_neg (show ¬ (-2 : Int32) = 0 by decide), f_L_law_1260]
        refine bz (z_alike0 hC hJ hs hu' hx e) fun o σ v hJ => ?_
        rw [v]
        rw [if_neg (show ¬ (0 : Int32) = 1 by decide), f_L_law_1279, if_pos rfl, if_neg (show ¬ (0 : Int32) ≤ -2 by decide), f_L_law_1292]
        refine bz (z_st0 hC hJ hu') fun o σ v hJ => ?_
        rw [v]
        rw [if_neg (fun z => e ((nI_eq (by omega) (by omega)).mp z)), f_L_law_1309, if_pos rfl, if_pos (Int32.le_trans (show (-2 : Int32) ≤ 0 by decide) (nI_pos' (by omega)))]
        refine bz (z_alike0 hC hJ hs hu' hx e) fun o σ v hJ => ?_
        rw [v]
        rw [if_neg (show ¬ (0 : Int32) = 1 by decide)]
        exact ih σ hJ
/-- the told lab in the cells b -/
def BB (w : Nat → Int32) (c ua : Nat) (a1 a2 a3 : Int32) (N0 R0 : Nat → Nat) : Prop := w 4 = nI c ∧ w 9 = nI ua ∧ w 0 = a1 ∧ w 1 = a2 ∧ w 2 = a3 ∧ ∀ t, t < c → w (5 + 2 * t) = nI (N0 t) ∧ w (6 + 2 * t) = nI (R0 t)
theorem d_1111 {k286 : Int32 → (Nat → Int32) → (Nat → Int32) → (Nat → Int32) → k_SB → Option (Int32)} {k305 : Int32 → Int32 → Int32 → (Nat → Int32) → (Nat → Int32) → (Nat → Int32) → k_SB → Option (Int32)} (hC : JC c g a1 a2 a3) (hB : BB w_bb c ua a1 a2 a3 N0 R0) {s : Nat} (hs : s < c) {x5 x6 : Int32} (K : ∀ σ, JJ c g ua ga A a1 a2 a3 N R N0 R0 σ → k305 x5 x6 (nI s + 1) w_bb w_m w_v σ = some 1) : ∀ (f x : Nat) (σ : k_SB), x ≤ 4 → 4 - x < f → JJ c g ua ga A a1 a2 a3 N R N0 R0 σ → f_L_law_1111 cL cX k286 k305 f x5 x6 (nI s) (nI (N s)) (nI (R s)) (eE (N s) (R s) a1 a2 a3) (nI x) w_bb w_m w_v σ = some 1
  | 0, _, _, _, hf, _ => absurd hf (Nat.not_lt_zero _)
  | f + 1, x, σ, hu, hf, hJ => by
    have cb := JC_2 hC
    have hc2 := hC.2.1
    rw [f_L_law_1111]
    by_cases q : x = 4
    · rw [q, if_pos (show (4 : Int32) ≤ nI 4 by decide), ← nI_0]
      exact d_1389 hC hB.1 hs K kFU 0 σ (Nat.zero_le _) (by unfold kFU; omega) hJ
    · have hx : x < 4 := by omega
      rw [if_neg (show ¬ (4 : Int32) ≤ nI x from nI_ge hx (by decide))]
      obtain ⟨n2, n12, nr⟩ := JJ_s hJ hs
      have rl : R s < 4096 := Nat.lt_of_lt_of_le nr (Nat.pow_le_pow_right (by decide) n12)
      have lr := rLA_r (x := x) (N s) (R s)
      have l0 := rLA_l0 (x := x) (N s) (R s)
      have lr0 := rLA_r (x := 0) (N s) (R s)
      have ki := KIN_least (r := R s) (x := x) (show 1 ≤ N s by omega)
      have kl := KIN_lt (by omega) n12 nr ki
      obtain ⟨pd1, pd2, pd3, pd4⟩ := rPd_spec (by omega) n12 nr
      have nw := nwC_le (rU (N s) (R s)) x 4
      refine bz (z_least hC hJ hs hx) fun o σ v hJ => ?_
      rw [v]
      rw [if_neg (nI_nlt lr (by omega)), l_energy (by omega) n12 kl, bd_s, hB.2.2.1, hB.2.2.2.1, hB.2.2.2.2.1, KIN_E (by omega) n12 nr ki, if_pos rfl]
      refine bz (z_many hC hJ hs hx) fun o σ v hJ => ?_
      rw [v]
      rw [show (4 : Int32) * nI (N s) = nI (4 * N s) from nI_mul 4 _, if_neg (nI_nlt (Nat.mul_le_mul nw pd3) (by omega))]
      refine bz (z_alike1 hC hJ hs hs hx rfl) fun o σ v hJ => ?_
      rw [v]
      rw [if_pos rfl, if_pos rfl]
      refine bz (z_least hC hJ (x := 0) hs (by decide)) fun o σ v hJ => ?_
      rw [v]
      rw [if_neg (nI_nlt l0 (by omega))]
      have ih : ∀ σ, JJ c g ua ga A a1 a2 a3 N R N0 R0 σ → f_L_law_1111 cL cX k286 k305 f x5 x6 (nI s) (nI (N s)) (nI (R s)) (eE (N s) (R s) a1 a2 a3) (nI x + 1) w_bb w_m w_v σ = some 1 := fun σ hJ => by
        rw [nI_1]
        exact d_1111 hC hB hs K f (x + 1) σ (by omega) (by omega) hJ
      have fi : ∀ σ, JJ c g ua ga A a1 a2 a3 N R N0 R0 σ → f_L_law_1212 cL cX k286 k305 (fun x5 x6 x7 x8 x9 x12 x17 w_bb w_m w_v σ => f_L_law_1111 cL cX k286 k305 f x5 x6 x7 x8 x9 x12 x17 w_bb w_m w_v σ) x5 x6 (nI s) (nI (N s)) (nI (R s)) (eE (N s) (R s) a1 a2 a3) (nI x) (nI (rLA (N s) (R s) x 4)) w_bb w_m w_v σ = some 1 := fun σ hJ => by
        rw [f_L_law_1212, ← nI_0]
        exact d_1215 hC hB.1 hs hx ih kFU 0 σ (Nat.zero_le _) (by unfold kFU; omega) hJ
      by_cases x0 : x = 0
      · subst x0
        rw [if_pos nI_0]
        refine bz (z_many hC hJ (x := 0) hs (by decide)) fun o σ v hJ => ?_
        rw [v]
        refine bz (z_st3 hC hJ hs) fun o σ v hJ => ?_
        rw [v]
        rw [nwC_0, Nat.one_mul, if_pos rfl]
        exact fi σ hJ
      · rw [if_neg (nI_ne0 (by omega) (by omega))]
        exact fi σ hJ
end W1
