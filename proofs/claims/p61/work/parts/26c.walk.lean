/-! THE LAW'S LOOPS OVER ONE STACK: layers, runs, sums -/
section W3
variable {c g ua ga A : Nat} {a1 a2 a3 : Int32} {N R N0 R0 : Nat → Nat} {cL : Nat} {cX : Nat → Int32} {w_bb w_m w_v : Nat → Int32} {σ : k_SB}
theorem rLt_3 (n r k : Nat) : rLt n r k < 3 := by
  cases k with
  | zero => simp only [rLt]; omega
  | succ k => simp only [rLt]; omega
theorem d_516 {k286 : Int32 → (Nat → Int32) → (Nat → Int32) → (Nat → Int32) → k_SB → Option (Int32)} {k305 : Int32 → Int32 → Int32 → (Nat → Int32) → (Nat → Int32) → (Nat → Int32) → k_SB → Option (Int32)} (hC : JC c g a1 a2 a3) (hB : BB w_bb c ua a1 a2 a3 N0 R0) {s : Nat} (hs : s < c) {x5 x6 : Int32} (K : ∀ σ, JJ c g ua ga A a1 a2 a3 N R N0 R0 σ → k305 x5 x6 (nI s + 1) w_bb w_m w_v σ = some 1) : ∀ (f k : Nat) (σ : k_SB), k ≤ 34 → 34 - k < f → JJ c g ua ga A a1 a2 a3 N R N0 R0 σ → f_L_law_516 cL cX k286 k305 f x5 x6 (nI s) (nI (N s)) (nI (R s)) (nI (rRep (N s) (R s))) (nI k) w_bb w_m w_v σ = some 1
  | 0, _, _, _, hf, _ => absurd hf (Nat.not_lt_zero _)
  | f + 1, k, σ, hu, hf, hJ => by
    have cb := JC_2 hC
    have hc2 := hC.2.1
    obtain ⟨n2, n12, nr⟩ := JJ_s hJ hs
    have rl : R s < 4096 := Nat.lt_of_lt_of_le nr (Nat.pow_le_pow_right (by decide) n12)
    rw [f_L_law_516]
    by_cases q : k = 34
    · rw [q, if_pos (show (34 : Int32) ≤ nI 34 by decide)]
      have rn : N s ≤ rRep (N s) (R s) := by unfold rRep; split <;> omega
      have rp := rRep_le (n := N s) (r := R s) n12
      exact d_603 hC hB hs K kFU 1 σ ⟨by decide, by omega⟩ (by unfold kFU; omega) hJ
    · have hk : k < 34 := by omega
      rw [if_neg (show ¬ (34 : Int32) ≤ nI k from nI_ge hk (by decide)), nI_1]
      have b0 := rLt_3 (N s) (R s) k
      have b1 := rLt_3 (N s) (R s) (k + 1)
      have b2 := rLt_3 (N s) (R s) (k + 2)
      have l2 := rLt_2 (n := N s) (r := R s) (show 1 ≤ N s by omega) k
      refine bz (z_layer hC hJ hs (show k < 36 by omega)) fun o σ v hJ => ?_
      rw [v]
      refine bz (z_layer hC hJ hs (show k + 1 < 36 by omega)) fun o σ v hJ => ?_
      rw [v]
      rw [if_neg (fun z => rLt_ne _ _ _ ((nI_eq (by omega) (by omega)).mp z))]
      refine bz (z_hex hC hJ hs (show k + 1 < 36 by omega)) fun o σ v hJ => ?_
      rw [v]
      have go : ∀ (σ : k_SB) (x : Int32), JJ c g ua ga A a1 a2 a3 N R N0 R0 σ → (x = if rLt (N s) (R s) k = rLt (N s) (R s) (k + 2) then 1 else 0) → f_L_law_563 cL cX k286 k305 (fun x5 x6 x7 x8 x9 x10 x12 w_bb w_m w_v σ => f_L_law_516 cL cX k286 k305 f x5 x6 x7 x8 x9 x10 x12 w_bb w_m w_v σ) x5 x6 (nI s) (nI (N s)) (nI (R s)) (nI (rRep (N s) (R s))) (nI k) x w_bb w_m w_v σ = some 1 := fun σ x hJ hx => by
        rw [f_L_law_563, show nI k + (2 : Int32) = nI (k + 2) from nI_add k 2]
        refine bz (z_layer hC hJ hs (show k < 36 by omega)) fun o σ v hJ => ?_
        rw [v]
        refine bz (z_layer hC hJ hs (show k + 2 < 36 by omega)) fun o σ v hJ => ?_
        rw [v]
        have ih : ∀ σ, JJ c g ua ga A a1 a2 a3 N R N0 R0 σ → f_L_law_516 cL cX k286 k305 f x5 x6 (nI s) (nI (N s)) (nI (R s)) (nI (rRep (N s) (R s))) (nI k + 1) w_bb w_m w_v σ = some 1 := fun σ hJ => by
          rw [nI_1]
          exact d_516 hC hB hs K f (k + 1) σ (by omega) (by omega) hJ
        by_cases e : rLt (N s) (R s) k = rLt (N s) (R s) (k + 2)
        · rw [if_pos e] at hx
          rw [if_pos (congrArg nI e), f_L_law_589, hx, if_pos rfl]
          exact ih σ hJ
        · rw [if_neg e] at hx
          rw [if_neg (fun z => e ((nI_eq (by omega) (by omega)).mp z)), f_L_law_589, hx, if_pos rfl]
          exact ih σ hJ
      rcases rX_01 (N s) (R s) (k + 1) with e | e
      · rw [e, if_neg (show ¬ nI 0 = 1 by decide)]
        exact go σ _ hJ (by rw [if_neg (fun z => by have := l2.mp z; omega)])
      · rw [e, if_pos (show nI 1 = 1 by decide)]
        exact go σ _ hJ (by rw [if_pos (l2.mpr e)])
abbrev rH5 (n r : Nat) : Nat := if rH n r = 0 then 1 else rH n r
theorem ev_all : ∀ h, h < 13 → h % 2 = 0 → (nI h - nI h / (2 : Int32) * (2 : Int32)) = 0 := by decide +kernel
theorem ev_at (h : Nat) (h12 : h ≤ 12) (e : h % 2 = 0) : (nI h - nI h / (2 : Int32) * (2 : Int32)) = 0 := ev_all h (by omega) e
theorem d_488 {k286 : Int32 → (Nat → Int32) → (Nat → Int32) → (Nat → Int32) → k_SB → Option (Int32)} {k305 : Int32 → Int32 → Int32 → (Nat → Int32) → (Nat → Int32) → (Nat → Int32) → k_SB → Option (Int32)} (hC : JC c g a1 a2 a3) (hB : BB w_bb c ua a1 a2 a3 N0 R0) {s : Nat} (hs : s < c) {x5 x6 : Int32} (K : ∀ σ, JJ c g ua ga A a1 a2 a3 N R N0 R0 σ → k305 x5 x6 (nI s + 1) w_bb w_m w_v σ = some 1) (σ : k_SB) (hJ : JJ c g ua ga A a1 a2 a3 N R N0 R0 σ) : f_L_law_488 cL cX k286 k305 x5 x6 (nI s) (nI (N s)) (nI (R s)) (nI (rRep (N s) (R s))) w_bb w_m w_v σ = some 1 := by
  obtain ⟨n2, n12, nr⟩ := JJ_s hJ hs
  have h12 := rH_le (N s) (R s)
  have he := rH_even (show 1 ≤ N s by omega) n12 nr
  have go : ∀ σ, JJ c g ua ga A a1 a2 a3 N R N0 R0 σ → f_L_law_513 cL cX k286 k305 x5 x6 (nI s) (nI (N s)) (nI (R s)) (nI (rRep (N s) (R s))) w_bb w_m w_v σ = some 1 := fun σ hJ => by
    rw [f_L_law_513]
    exact d_516 hC hB hs K kFU 0 σ (Nat.zero_le _) (by unfold kFU; omega) hJ
  rw [f_L_law_488]
  refine bz (z_st5 hC hJ hs) fun o σ v hJ => ?_
  rw [v]
  by_cases q : rH (N s) (R s) = 0
  · rw [if_pos q, if_pos (show nI 1 ≤ 1 by decide)]
    exact go σ hJ
  · rw [if_neg q, if_neg (show ¬ nI (rH (N s) (R s)) ≤ (1 : Int32) from nI_ge (b := rH (N s) (R s)) (a := 1) (by omega) (by omega))]
    refine bz (z_st5 hC hJ hs) fun o σ v hJ => ?_
    rw [v]
    rw [if_neg q, ev_at _ h12 he, if_pos rfl]
    exact go σ hJ
theorem rH_c {n r : Nat} (h1 : 1 ≤ n) (h2 : n ≤ 12) (hr : r < 2 ^ n) : rXc n r n = rH n r := of_decide_eq_true (allR_at (p := fun n r => decide (rXc n r n = rH n r)) (by decide +kernel) h1 h2 hr)
theorem rXc_up (n r K : Nat) : ∀ d, rXc n r K ≤ rXc n r (K + d)
  | 0 => Nat.le_refl _
  | d + 1 => by
    rw [← Nat.add_assoc, rXc]
    exact Nat.le_trans (rXc_up n r K d) (Nat.le_add_right _ _)
/-- the first place that begins a run -/
theorem rX_first (n r : Nat) : ∀ d, (∃ K, K < d ∧ rX n r K = 1 ∧ rXc n r K = 0) ∨ rXc n r d = 0
  | 0 => Or.inr rfl
  | d + 1 => by
    rcases rX_first n r d with ⟨K, k1, k2, k3⟩ | h
    · exact Or.inl ⟨K, by omega, k2, k3⟩
    · rcases rX_01 n r d with e | e
      · exact Or.inr (by rw [rXc, h, e])
      · exact Or.inl ⟨d, by omega, e, h⟩
/-- the runs so far, put together -/
def RN (n r K0 i S : Nat) : Prop := (i < rH n r ∧ K0 + S < n ∧ rX n r (K0 + S) = 1 ∧ rXc n r (K0 + S) = i) ∨ (i = rH n r ∧ S = n)
theorem d_422 {k286 : Int32 → (Nat → Int32) → (Nat → Int32) → (Nat → Int32) → k_SB → Option (Int32)} {k305 : Int32 → Int32 → Int32 → (Nat → Int32) → (Nat → Int32) → (Nat → Int32) → k_SB → Option (Int32)} (hC : JC c g a1 a2 a3) (hB : BB w_bb c ua a1 a2 a3 N0 R0) {s : Nat} (hs : s < c) {x5 x6 : Int32} (K : ∀ σ, JJ c g ua ga A a1 a2 a3 N R N0 R0 σ → k305 x5 x6 (nI s + 1) w_bb w_m w_v σ = some 1) {K0 : Nat} (hK0 : rH (N s) (R s) ≠ 0 → K0 < N s ∧ rX (N s) (R s) K0 = 1 ∧ rXc (N s) (R s) K0 = 0) : ∀ (f i S : Nat) (σ : k_SB), i ≤ rH5 (N s) (R s) → rH5 (N s) (R s) - i < f → (rH (N s) (R s) ≠ 0 → RN (N s) (R s) K0 i S) → (rH (N s) (R s) = 0 → S = i * N s) → JJ c g ua ga A a1 a2 a3 N R N0 R0 σ → f_L_law_422 cL cX k286 k305 f x5 x6 (nI s) (nI (N s)) (nI (R s)) (nI (rRep (N s) (R s))) (nI S) (nI i) w_bb w_m w_v σ = some 1
  | 0, _, _, _, _, hf, _, _, _ => absurd hf (Nat.not_lt_zero _)
  | f + 1, i, S, σ, hi, hf, hr, hz, hJ => by
    obtain ⟨n2, n12, nr⟩ := JJ_s hJ hs
    have n1 : 1 ≤ N s := by omega
    have h12 := rH_le (N s) (R s)
    have he := rH_even n1 n12 nr
    have hc := rH_c n1 n12 nr
    rw [f_L_law_422]
    refine bz (z_st5 hC hJ hs) fun o σ v hJ => ?_
    rw [v]
    by_cases q : i = rH5 (N s) (R s)
    · rw [q, if_pos (Int32.le_refl _)]
      have e : S = N s := by
        by_cases z : rH (N s) (R s) = 0
        · rw [hz z, q]; unfold rH5; rw [if_pos z, Nat.one_mul]
        · rcases hr z with h | h
          · have : i = rH (N s) (R s) := by rw [q]; unfold rH5; rw [if_neg z]
            omega
          · exact h.2
      rw [e, if_pos rfl]
      refine bz (z_st5 hC hJ hs) fun o σ v hJ => ?_
      rw [v]
      by_cases z : rH (N s) (R s) = 0
      · rw [if_pos z, if_pos (show nI 1 ≤ 1 by decide)]
        exact d_488 hC hB hs K σ hJ
      · rw [if_neg z, if_neg (show ¬ nI (rH (N s) (R s)) ≤ (1 : Int32) from nI_ge (b := rH (N s) (R s)) (a := 1) (by omega) (by omega))]
        refine bz (z_st5 hC hJ hs) fun o σ v hJ => ?_
        rw [v]
        refine bz (z_st4 hC hJ hs) fun o σ v hJ => ?_
        rw [v]
        rw [if_neg z, if_pos rfl]
        exact d_488 hC hB hs K σ hJ
    · have hi' : i < rH5 (N s) (R s) := by omega
      have h5 : rH5 (N s) (R s) ≤ 12 := by unfold rH5; split <;> omega
      rw [if_neg (nI_ge hi' (by omega))]
      by_cases z : rH (N s) (R s) = 0
      · have i0 : i = 0 := by unfold rH5 at hi'; rw [if_pos z] at hi'; omega
        subst i0
        refine bz (z_run0 hC hJ hs z) fun o σ v hJ => ?_
        rw [v]
        have S0 : S = 0 := by rw [hz z, Nat.zero_mul]
        rw [lt_q, nI_add, nI_1]
        exact d_422 hC hB hs K hK0 f 1 (S + N s) σ (by omega) (by omega) (fun y => absurd z y) (fun _ => by omega) hJ
      · have hi2 : i < rH (N s) (R s) := by unfold rH5 at hi'; rw [if_neg z] at hi'; exact hi'
        obtain ⟨k1, k2, k3⟩ := hK0 z
        rcases hr z with ⟨q1, q2, q3, q4⟩ | h
        · obtain ⟨y, ⟨p1, p2, p3, p4⟩, zz⟩ := z_run1 hC hJ hs z hi2 q2 q3 q4
          refine bz (zz) fun o σ v hJ => ?_
          rw [v]
          rw [lt_q, nI_add, nI_1]
          refine d_422 hC hB hs K hK0 f (i + 1) (S + y) σ (by omega) (by omega) (fun _ => ?_) (fun y => absurd y z) hJ
          rcases rX_next n1 n12 nr q2 q3 p1 p2 p3 p4 with ⟨w1, w2⟩ | ⟨w1, w2, w3, w4⟩
          · rw [q4] at w2
            rw [Nat.add_assoc] at w1 w2 p3
            refine Or.inl ⟨?_, w1, p3, w2⟩
            have m := rXc_up (N s) (R s) (K0 + (S + y) + 1) (N s - (K0 + (S + y) + 1))
            rw [show K0 + (S + y) + 1 + (N s - (K0 + (S + y) + 1)) = N s by omega, hc, rXc, w2, p3] at m
            omega
          · rw [q4] at w2
            refine Or.inr ⟨w2.symm, ?_⟩
            have u := rX_uniq w3 k2 (w4.trans k3.symm)
            omega
        · omega
theorem s2_at : ∀ p, p < 13 → ∀ n, n < 13 → ((((2 : Int32) * nI p - nI n) - nI n) - (((2 : Int32) * nI p - nI n) - nI n) / (2 : Int32) * (2 : Int32)) = 0 := by decide +kernel
theorem dv_at : ∀ d, d < 13 → ∀ n, n < 13 → d ≠ 0 → n % d = 0 → (nI n - nI n / nI d * nI d) = 0 := by decide +kernel
theorem d_356 {k286 : Int32 → (Nat → Int32) → (Nat → Int32) → (Nat → Int32) → k_SB → Option (Int32)} {k305 : Int32 → Int32 → Int32 → (Nat → Int32) → (Nat → Int32) → (Nat → Int32) → k_SB → Option (Int32)} (hC : JC c g a1 a2 a3) (hB : BB w_bb c ua a1 a2 a3 N0 R0) {s : Nat} (hs : s < c) {x5 x6 : Int32} (K : ∀ σ, JJ c g ua ga A a1 a2 a3 N R N0 R0 σ → k305 x5 x6 (nI s + 1) w_bb w_m w_v σ = some 1) (σ : k_SB) (hJ : JJ c g ua ga A a1 a2 a3 N R N0 R0 σ) : f_L_law_356 cL cX k286 k305 x5 x6 (nI s) (nI (N s)) (nI (R s)) (nI (rRep (N s) (R s))) w_bb w_m w_v σ = some 1 := by
  obtain ⟨n2, n12, nr⟩ := JJ_s hJ hs
  have n1 : 1 ≤ N s := by omega
  have p12 := rP_n n1 n12 nr
  have rp := rRep_le (n := N s) (r := R s) n12
  obtain ⟨pd1, pd2, pd3, pd4⟩ := rPd_spec n1 n12 nr
  have tot := rp_tot (c := rP (R s)) (n := N s) (by omega) n1 n12
  have K0 : ∃ K0, rH (N s) (R s) ≠ 0 → K0 < N s ∧ rX (N s) (R s) K0 = 1 ∧ rXc (N s) (R s) K0 = 0 := by
    rcases rX_first (N s) (R s) (N s) with ⟨k, h⟩ | h
    · exact ⟨k, fun _ => h⟩
    · exact ⟨0, fun z => absurd ((rH_c n1 n12 nr).symm.trans h) z⟩
  obtain ⟨K0, hK0⟩ := K0
  have go : ∀ σ, JJ c g ua ga A a1 a2 a3 N R N0 R0 σ → f_L_law_422 cL cX k286 k305 kFU x5 x6 (nI s) (nI (N s)) (nI (R s)) (nI (rRep (N s) (R s))) (0 : Int32) (0 : Int32) w_bb w_m w_v σ = some 1 := fun σ hJ => by
    have h12 := rH_le (N s) (R s)
    exact d_422 hC hB hs K hK0 kFU 0 0 σ (Nat.zero_le _) (by unfold rH5 kFU; split <;> omega) (fun z => Or.inl ⟨by omega, (hK0 z).1, (hK0 z).2.1, (hK0 z).2.2⟩) (fun _ => (Nat.zero_mul _).symm) hJ
  rw [f_L_law_356]
  refine bz (z_st3 hC hJ hs) fun o σ v hJ => ?_
  rw [v]
  rw [gd_t _ (nI_ne0 pd2 (by omega)), dv_at _ (by omega) _ (by omega) (by omega) (rPd_dvd n1 n12 nr), if_pos rfl]
  refine bz (z_sum hC hJ hs) fun o σ v hJ => ?_
  rw [v]
  rw [s2_at _ (by omega) _ (by omega), if_pos rfl]
  by_cases q : (rP (R s) + N s) % 3 = 0
  · have e : rRep (N s) (R s) = N s := by unfold rRep; rw [if_pos q]
    rw [if_pos (congrArg nI e), f_L_law_395]
    refine bz (z_sum hC hJ hs) fun o σ v hJ => ?_
    rw [v]
    rw [if_pos (tot.mpr q), f_L_law_411, if_pos rfl]
    exact go σ hJ
  · have e : rRep (N s) (R s) = 3 * N s := by unfold rRep; rw [if_neg q]
    rw [if_neg (fun z => by have := (nI_eq (by omega) (by omega)).mp z; omega), f_L_law_395]
    refine bz (z_sum hC hJ hs) fun o σ v hJ => ?_
    rw [v]
    rw [if_neg (fun z => q (tot.mp z)), f_L_law_411, if_pos rfl]
    exact go σ hJ
end W3
