/-! THE ROUNDS; THE GROUND OF EACH LENGTH; the end -/
section W6
variable {c g ua ga A : Nat} {a1 a2 a3 : Int32} {N R N0 R0 : Nat → Nat} {cL : Nat} {cX : Nat → Int32} {w_bb w_m w_v : Nat → Int32} {σ : k_SB}
theorem d_305 {k286 : Int32 → (Nat → Int32) → (Nat → Int32) → (Nat → Int32) → k_SB → Option (Int32)} (hC : JC c g a1 a2 a3) (hB : BB w_bb c ua a1 a2 a3 N0 R0) (hL : cL ≤ 260) {ro : Nat} (hro : ro ≤ 3) (K : ∀ (N R : Nat → Nat) (A : Nat) (w_v : Nat → Int32) (σ : k_SB), A ≤ 3 * (ro + 1) → JJ c g ua ga A a1 a2 a3 N R N0 R0 σ → VV w_v c N R → k286 (nI ro + 1) w_bb w_m w_v σ = some 1) (hA : A ≤ 3 * ro) (hV : VV w_v c N R) {x6 : Int32} : ∀ (f t : Nat) (σ : k_SB), t ≤ c → c - t < f → JJ c g ua ga A a1 a2 a3 N R N0 R0 σ → f_L_law_305 cL cX k286 f (nI ro) x6 (nI t) w_bb w_m w_v σ = some 1
  | 0, _, _, _, hf, _ => absurd hf (Nat.not_lt_zero _)
  | f + 1, t, σ, ht, hf, hJ => by
    have cb := JC_2 hC
    have b9 : (9 : Int32).toNatClampNeg = 9 := by decide
    rw [f_L_law_305, gd_t _ (by decide), b4r, hB.1]
    by_cases q : t = c
    · rw [q, if_pos (Int32.le_refl _)]
      have hu : ua ≤ 2 := hJ.1.2.2.2.2.2.2.2.2.1
      obtain ⟨B, hb, fk, z1, z2⟩ := z_of hJ
      obtain ⟨f1, f2, f3, f4, f5⟩ := fOK_at hu hb
      have p4 : (2 : Nat) ^ ua ≤ 2 ^ 2 := Nat.pow_le_pow_right (by decide) hu
      have hF : JF c g ua ga A a1 a2 a3 N R N0 R0 B σ := ⟨hJ, z1, z2⟩
      refine bz (zf (z_fits hC hF.1 fk hF.2.1) (fun o => (hF.2 : ZQ ua ga B (ux_fits σ o)))) fun o σ v hF => ?_
      rw [v]
      rw [gd_t _ (by decide), b9, hB.2.1, rf_pow (by omega), if_neg (nI_nlt f1 (by omega))]
      obtain ⟨y, p, zj⟩ := z_judge hC hF.1
      have hz := hF.2.2
      refine bz (zf (zj) (fun o => (hF.2 : ZQ ua ga B (ux_judge σ o)))) fun o σ v hF => ?_
      rw [v]
      by_cases w : 0 ≤ y
      · rw [if_pos w]
        exact d_1496 hC hB hL hro K hA hV hu hb fk σ hF
      · have s1 := f4 (hz (p (Int32.not_le.mp w)))
        rw [if_neg w, if_neg (nI_ne0 (by omega) (by omega))]
        exact d_1496 hC hB hL hro K hA hV hu hb fk σ hF
    · have ht' : t < c := by omega
      have hc2 := hC.2.1
      rw [if_neg (nI_ge ht' cb)]
      have ih : ∀ σ, JJ c g ua ga A a1 a2 a3 N R N0 R0 σ → f_L_law_356 cL cX k286 (fun x5 x6 x7 w_bb w_m w_v σ => f_L_law_305 cL cX k286 f x5 x6 x7 w_bb w_m w_v σ) (nI ro) x6 (nI t) (nI (N t)) (nI (R t)) (nI (rRep (N t) (R t))) w_bb w_m w_v σ = some 1 := fun σ hJ =>
        d_356 hC hB ht' (fun σ hJ => by rw [nI_1]; exact d_305 hC hB hL hro K hA hV f (t + 1) σ (by omega) (by omega) hJ) σ hJ
      refine bz (z_st0 hC hJ ht') fun o σ v hJ => ?_
      rw [v]
      refine bz (z_st1 hC hJ ht') fun o σ v hJ => ?_
      rw [v]
      refine bz (z_st2 hC hJ ht') fun o σ v hJ => ?_
      rw [v]
      by_cases e : rRep (N t) (R t) = N t
      · rw [if_pos (congrArg nI e)]
        exact ih σ hJ
      · obtain ⟨n2, n12, nr⟩ := JJ_s hJ ht'
        have rp := rRep_le (n := N t) (r := R t) n12
        have e3 : rRep (N t) (R t) = 3 * N t := by
          unfold rRep at e ⊢
          by_cases z : (rP (R t) + N t) % 3 = 0
          · rw [if_pos z] at e; exact absurd rfl e
          · rw [if_neg z]
        rw [if_neg (fun z => e ((nI_eq (by omega) (by omega)).mp z)), if_pos (show nI (rRep (N t) (R t)) = (3 : Int32) * nI (N t) by rw [e3]; exact (pk_mul 3 _).symm)]
        exact ih σ hJ
theorem d_1920 (hC : JC c g a1 a2 a3) (hB : BB w_bb c ua a1 a2 a3 N0 R0) : ∀ (f t : Nat) (σ : k_SB), t ≤ c → c - t < f → JJ c g ua ga 0 a1 a2 a3 N0 R0 N0 R0 σ → f_L_law_1920 cL cX f (nI t) w_bb w_m w_v σ = some 1
  | 0, _, _, _, hf, _ => absurd hf (Nat.not_lt_zero _)
  | f + 1, t, σ, ht, hf, hJ => by
    have cb := JC_2 hC
    have hc2 := hC.2.1
    rw [f_L_law_1920, gd_t _ (by decide), b4r, hB.1]
    by_cases q : t = c
    · rw [q, if_pos (Int32.le_refl _)]
    · have ht' : t < c := by omega
      obtain ⟨b1, b2⟩ := hB.2.2.2.2.2 t ht'
      have m2 : (2 : Int32) * nI t = nI (2 * t) := pk_mul 2 _
      have e5 : (5 : Int32) + nI (2 * t) = nI (5 + 2 * t) := nI_add 5 _
      have e6 : (6 : Int32) + nI (2 * t) = nI (6 + 2 * t) := nI_add 6 _
      have w5 : w_bb (nI (5 + 2 * t)).toNatClampNeg = nI (N0 t) := by rw [nI_clamp (by omega)]; exact b1
      have w6 : w_bb (nI (6 + 2 * t)).toNatClampNeg = nI (R0 t) := by rw [nI_clamp (by omega)]; exact b2
      rw [if_neg (nI_ge ht' cb), m2, e5, e6]
      refine bz (z_st0 hC hJ ht') fun o σ v hJ => ?_
      rw [v]
      rw [gd_t _ (nI_in (by omega) (by decide)), w5, if_pos rfl]
      refine bz (z_st1 hC hJ ht') fun o σ v hJ => ?_
      rw [v]
      rw [gd_t _ (nI_in (by omega) (by decide)), w6, if_pos rfl, nI_1]
      exact d_1920 hC hB f (t + 1) σ (by omega) (by omega) hJ
theorem d_286 (hC : JC c g a1 a2 a3) (hB : BB w_bb c ua a1 a2 a3 N0 R0) (hL : cL ≤ 260) : ∀ (f ro : Nat) (N R : Nat → Nat) (A : Nat) (w_v : Nat → Int32) (σ : k_SB), ro ≤ 4 → 4 - ro < f → A ≤ 3 * ro → JJ c g ua ga A a1 a2 a3 N R N0 R0 σ → VV w_v c N R → f_L_law_286 cL cX f (nI ro) w_bb w_m w_v σ = some 1
  | 0, _, _, _, _, _, _, _, hf, _, _, _ => absurd hf (Nat.not_lt_zero _)
  | f + 1, ro, N, R, A, w_v, σ, hr, hf, hA, hJ, hV => by
    rw [f_L_law_286]
    by_cases q : ro = 4
    · rw [q, if_pos (show (4 : Int32) ≤ nI 4 by decide)]
      refine bz (z_back hJ) fun o σ v hJ => ?_
      rw [v]
      rw [if_neg (by decide)]
      refine bz (z_undo0 hJ) fun o σ v hJ => ?_
      rw [v]
      rw [if_pos rfl]
      refine bdz (z_size7 hJ) fun o ⟨v, hj⟩ => ?_
      rw [lt_q, v, if_pos rfl]
      exact d_1920 hC hB kFU 0 _ (Nat.zero_le _) (by unfold kFU; have := hC.2.1; omega) hj
    · rw [if_neg (show ¬ (4 : Int32) ≤ nI ro from nI_ge (b := 4) (by omega) (by decide))]
      obtain ⟨x, ex⟩ := l_cell (cX := cX) hL (k := 3 + ro) (by omega)
      rw [show (3 : Int32) + nI ro = nI (3 + ro) from nI_add 3 _, ex, bd_s]
      exact d_305 hC hB hL (show ro ≤ 3 by omega) (fun N R A w_v σ hA hJ hV => by
        rw [nI_1]
        exact d_286 hC hB hL f (ro + 1) N R A w_v σ (by omega) (by omega) hA hJ hV) hA hV kFU 0 σ (Nat.zero_le _) (by unfold kFU; have := hC.2.1; omega) hJ
/-- the ways to count kinds at one length -/
theorem d_122 {k48 : Int32 → (Nat → Int32) → (Nat → Int32) → (Nat → Int32) → k_SB → Option (Int32)} (hC : JC c g a1 a2 a3) {n : Nat} (h2 : 2 ≤ n) (h6 : n ≤ 6) (K : ∀ σ, JJ c g ua ga A a1 a2 a3 N R N0 R0 σ → k48 (nI n + 1) w_bb w_m w_v σ = some 1) : ∀ (f x l : Nat) (σ : k_SB), x ≤ 4 → 4 - x < f → kC n 3 0 (2 ^ n) ≤ l → (x = 4 → l = kC n 3 0 (2 ^ n)) → l ≤ 9999 → JJ c g ua ga A a1 a2 a3 N R N0 R0 σ → f_L_law_122 cL cX k48 f (nI n) (nI l) (nI x) w_bb w_m w_v σ = some 1
  | 0, _, _, _, _, hf, _, _, _, _ => absurd hf (Nat.not_lt_zero _)
  | f + 1, x, l, σ, hx4, hf, hl, he, hm, hJ => by
    have p6 : (2 : Nat) ^ n ≤ 2 ^ 6 := Nat.pow_le_pow_right (by decide) h6
    rw [f_L_law_122]
    by_cases q : x = 4
    · rw [q, if_pos (show (4 : Int32) ≤ nI 4 by decide)]
      refine bz (z_kinds hC hJ (n := n) (x := 3) (k := 0) (by omega) (by omega) (by decide) (by decide)) fun o σ v hJ => ?_
      rw [v]
      rw [he q, if_pos rfl]
      obtain ⟨y, ⟨p1, p2, p3, p4⟩, z⟩ := z_groundBest hC hJ
      refine bz (z) fun o σ v hJ => ?_
      rw [v]
      refine bz (z_ground hC hJ p1 p2) fun o σ v hJ => ?_
      rw [v]
      refine bz (z_ground hC hJ h2 (show n ≤ 12 by omega)) fun o σ v hJ => ?_
      rw [v]
      obtain ⟨y', ⟨p1', p2', p3', p4'⟩, z⟩ := z_groundBest hC hJ
      refine bz (z) fun o σ v hJ => ?_
      rw [v]
      obtain rfl : y = y' := by
        rcases Nat.lt_trichotomy y y' with h | h | h
        · exact absurd (Int.lt_of_lt_of_le (p4' y p1 h) (p3 y' p1' p2')) (Int.lt_irrefl _)
        · exact h
        · exact absurd (Int.lt_of_lt_of_le (p4 y' p1' h) (p3' y p1 p2)) (Int.lt_irrefl _)
      have i1 := hC.2.2.2.1
      have i2 := hC.2.2.2.2.1
      have i3 := hC.2.2.2.2.2
      rw [if_pos ((ratio_le (gG_ib p2 i1 i2 i3) (gG_ib (by omega) i1 i2 i3) (by omega) p2).mpr (p3 n h2 (by omega)))]
      exact K σ hJ
    · have hx : x < 4 := by omega
      obtain ⟨k1, k2, k3, k4, k5⟩ := kOK_at h2 h6 hx
      obtain ⟨j1, j2, j3, j4, j5⟩ := kOK_at h2 h6 (show 3 < 4 by decide)
      have kt := kC_le n x 0 (2 ^ n)
      have kt0 := kC_le n 0 0 (2 ^ n)
      rw [if_neg (show ¬ (4 : Int32) ≤ nI x from nI_ge (b := 4) hx (by decide))]
      refine bz (z_kinds hC hJ (n := n) (x := x) (k := 0) (by omega) (by omega) (by omega) (by decide)) fun o σ v hJ => ?_
      rw [v]
      rw [if_neg (show ¬ nI (kC n x 0 (2 ^ n)) < (1 : Int32) from nI_nlt (b := 1) k1 (by omega))]
      refine bz (z_kinds hC hJ (n := n) (x := 0) (k := 0) (by omega) (by omega) (by decide) (by decide)) fun o σ v hJ => ?_
      rw [v]
      rw [if_neg (nI_nlt k2 (by omega))]
      have go : ∀ σ, JJ c g ua ga A a1 a2 a3 N R N0 R0 σ → f_L_law_190 cL cX k48 (fun x5 x7 x8 w_bb w_m w_v σ => f_L_law_122 cL cX k48 f x5 x7 x8 w_bb w_m w_v σ) (nI n) (nI l) (nI x) (nI (kC n x 0 (2 ^ n))) w_bb w_m w_v σ = some 1 := fun σ hJ => by
        rw [f_L_law_190]
        refine bz (z_kinds hC hJ (n := n) (x := x) (k := 1) (by omega) (by omega) (by omega) (by decide)) fun o σ v hJ => ?_
        rw [v]
        have km : kC n x 0 (2 ^ n) * 4 * n ≤ 2 ^ 6 * 4 * 6 := Nat.mul_le_mul (Nat.mul_le_mul_right 4 (Nat.le_trans kt p6)) h6
        rw [if_neg (nI_nlt k4 (by omega)), rf_pow (by omega), show nI (kC n x 0 (2 ^ n)) * (4 : Int32) = nI (kC n x 0 (2 ^ n) * 4) from pk_mul _ 4, pk_mul, if_pos (nI_le k5 (by omega))]
        by_cases w : l ≤ kC n x 0 (2 ^ n)
        · rw [if_pos (nI_le w (by omega)), f_L_law_231, nI_1]
          exact d_122 hC h2 h6 K f (x + 1) l σ (by omega) (by omega) hl (fun z => by obtain rfl : x = 3 := (by omega); omega) hm hJ
        · rw [if_neg (nI_ge (by omega) (by omega)), f_L_law_231, nI_1]
          exact d_122 hC h2 h6 K f (x + 1) _ σ (by omega) (by omega) k3 (fun z => by obtain rfl : x = 3 := (by omega); rfl) (by omega) hJ
      by_cases x3 : x = 3
      · have h31 := (kOK_at h2 h6 (show 1 < 4 by decide)).2.2.1
        have h32 := (kOK_at h2 h6 (show 2 < 4 by decide)).2.2.1
        have kt1 := kC_le n 1 0 (2 ^ n)
        have kt2 := kC_le n 2 0 (2 ^ n)
        rw [if_pos (show nI x = (3 : Int32) from congrArg nI x3)]
        refine bz (z_kinds hC hJ (n := n) (x := 1) (k := 0) (by omega) (by omega) (by decide) (by decide)) fun o σ v hJ => ?_
        rw [v]
        rw [if_neg (nI_nlt (by rw [x3]; exact h31) (by omega))]
        refine bz (z_kinds hC hJ (n := n) (x := 2) (k := 0) (by omega) (by omega) (by decide) (by decide)) fun o σ v hJ => ?_
        rw [v]
        rw [if_neg (nI_nlt (by rw [x3]; exact h32) (by omega))]
        exact go σ hJ
      · rw [if_neg (show ¬ nI x = (3 : Int32) from fun z => x3 ((nI_eq (b := 3) (by omega) (by decide)).mp z))]
        exact go σ hJ
theorem d_48 (hC : JC c g a1 a2 a3) (hB : BB w_bb c ua a1 a2 a3 N0 R0) (hL : cL ≤ 260) (hA : A = 0) (hV : VV w_v c N R) : ∀ (f n : Nat) (σ : k_SB), (2 ≤ n ∧ n ≤ 7) → 7 - n < f → JJ c g ua ga A a1 a2 a3 N R N0 R0 σ → f_L_law_48 cL cX f (nI n) w_bb w_m w_v σ = some 1
  | 0, _, _, _, hf, _ => absurd hf (Nat.not_lt_zero _)
  | f + 1, n, σ, hn, hf, hJ => by
    rw [f_L_law_48]
    by_cases q : n = 7
    · rw [q, if_pos (show (7 : Int32) ≤ nI 7 by decide)]
      exact d_286 hC hB hL kFU 0 N R A w_v σ (by decide) (by decide) (by omega) hJ hV
    · have h6 : n ≤ 6 := by omega
      have p6 : (2 : Nat) ^ n ≤ 2 ^ 6 := Nat.pow_le_pow_right (by decide) h6
      have p0 : 0 < (2 : Nat) ^ n := Nat.two_pow_pos n
      have g2 := gC_2 (n := n) (a := a1) (b := a2) (c := a3) (by omega) (by omega)
      have gt := gC_top (n := n) (a := a1) (b := a2) (c := a3) (by omega)
      have gr := gR_le n a1 a2 a3 (2 ^ n - 1)
      rw [if_neg (show ¬ (7 : Int32) ≤ nI n from nI_ge (b := 7) (by omega) (by decide))]
      refine bz (z_groundMany hC hJ hn.1 (show n ≤ 12 by omega)) fun o σ v hJ => ?_
      rw [v]
      rw [if_neg (show ¬ nI (gC n a1 a2 a3 (2 ^ n - 1)) < (2 : Int32) from nI_nlt (b := 2) g2 (by omega)), rf_pow (by omega), if_neg (nI_nlt gt (by omega))]
      refine bz (z_groundRow hC hJ hn.1 (show n ≤ 12 by omega)) fun o σ v hJ => ?_
      rw [v]
      rw [if_neg (nI_ge (by omega) (by omega))]
      refine bz (z_groundRow hC hJ hn.1 (show n ≤ 12 by omega)) fun o σ v hJ => ?_
      rw [v]
      rw [l_energy (by omega) (by omega) (by omega), bd_s, hB.2.2.1, hB.2.2.2.1, hB.2.2.2.2.1, gR_E]
      refine bz (z_ground hC hJ hn.1 (show n ≤ 12 by omega)) fun o σ v hJ => ?_
      rw [v]
      rw [if_pos rfl]
      have kt := kC_le n 3 0 (2 ^ n)
      exact d_122 hC hn.1 h6 (fun σ hJ => by
        rw [nI_1]
        exact d_48 hC hB hL hA hV f (n + 1) σ (by omega) (by omega) hJ) kFU 0 9999 σ (by decide) (by decide) (by omega) (fun z => absurd z (by decide)) (by decide) hJ
end W6
