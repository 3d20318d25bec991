/-! THE LAB OF WHAT WAS SAID -/
theorem x9_copy_10 {c : Nat} {cnt : Int32} {ln rw_ : Nat → Int32} : ∀ (f k : Nat) (L W : Nat → Int32), k ≤ 5 → 5 - k < f → (∀ s, s < k → L s = ln s ∧ W s = rw_ s) → ∃ L' W', f_X9_copy_10 f (nI k) cnt (nI c) ln rw_ L W = some (nI c, L', W') ∧ ∀ s, s < 5 → L' s = ln s ∧ W' s = rw_ s
  | 0, _, _, _, _, h, _ => absurd h (Nat.not_lt_zero _)
  | f + 1, k, L, W, hk, hf, h => by
    rw [f_X9_copy_10]
    by_cases q : k = 5
    · rw [q, if_pos (show (5 : Int32) ≤ nI 5 by decide)]
      exact ⟨L, W, rfl, fun s hs => h s (by omega)⟩
    · rw [if_neg (show ¬ (5 : Int32) ≤ nI k from nI_ge (b := 5) (by omega) (by decide)), x9_row (by omega), bd_s, x9_steps (by omega), bd_s, x9_put (by omega), bd_s, nI_1]
      exact x9_copy_10 f (k + 1) _ _ (by omega) (by omega) (fun s hs => by
        dsimp only
        by_cases z : s = k
        · rw [z, pk_us, pk_us]; exact ⟨rfl, rfl⟩
        · rw [pk_un z, pk_un z]; exact h s (by omega))
theorem x9_copy1 {c : Nat} {cnt : Int32} {ln rw_ : Nat → Int32} (L W : Nat → Int32) : ∃ L' W', f_X9_copy (nI c) cnt ln rw_ L W = some (nI c, L', W') ∧ ∀ s, s < 5 → L' s = ln s ∧ W' s = rw_ s := by
  rw [f_X9_copy, ← nI_0]
  exact x9_copy_10 kFU 0 L W (by decide) (by decide) (fun s hs => absurd hs (Nat.not_lt_zero _))
theorem x3_kp {ln rw_ : Nat → Int32} : ∀ (f k : Nat) (L W : Nat → Int32), k ≤ 5 → 5 - k < f → (∀ s, s < k → L s = ln s ∧ W s = rw_ s) → ∃ L' W', f_X3_keep_2 f (nI k) 0 ln rw_ L W = some (0, 1, L', W') ∧ ∀ s, s < 5 → L' s = ln s ∧ W' s = rw_ s
  | 0, _, _, _, _, h, _ => absurd h (Nat.not_lt_zero _)
  | f + 1, k, L, W, hk, hf, h => by
    rw [f_X3_keep_2]
    by_cases q : k = 5
    · rw [q, if_pos (show (5 : Int32) ≤ nI 5 by decide), lt_q]
      exact ⟨L, W, by rw [show (0 : Int32) + 1 - 1 = 0 by decide, show (0 : Int32) + 1 = 1 by decide], fun s hs => h s (by omega)⟩
    · have e : ((0 : Int32) * (5 : Int32)) + nI k = nI k := by
        rw [show (0 : Int32) * (5 : Int32) = 0 by decide, Int32.zero_add]
      rw [if_neg (show ¬ (5 : Int32) ≤ nI k from nI_ge (b := 5) (by omega) (by decide)), x9_row (by omega), bd_s, e, x11_set (by decide) (by omega), bd_s, x9_steps (by omega), bd_s, x11_set (by decide) (by omega), bd_s, nI_1]
      exact x3_kp f (k + 1) _ _ (by omega) (by omega) (fun s hs => by
        by_cases z : s = k
        · rw [z, pk_us, pk_us]; exact ⟨rfl, rfl⟩
        · rw [pk_un z, pk_un z]; exact h s (by omega))
/-- the world when the lab is told -/
def KK (c g ua ga : Nat) (a1 a2 a3 : Int32) (N0 R0 : Nat → Nat) (σ : k_SB) : Prop :=
  (σ.1 29 = 1 ∧ σ.1 30 = a1 ∧ σ.1 31 = a2 ∧ σ.1 32 = a3 ∧ σ.1 33 = nI g ∧ σ.1 34 = nI ua ∧ σ.1 35 = nI ga ∧ TL c ua ga N0 R0 (σ.2.2.1 23) (σ.2.2.1 24) (σ.2.2.1 26) (σ.2.2.1 25) (σ.2.2.1 22) (σ.2.2.1 20) (σ.2.2.1 21)) ∧ σ.1 12 = 0 ∧ (σ.1 19 = nI c ∧ σ.1 3 = nI 0 ∧ SVx c N0 R0 (σ.2.2.1 17) (σ.2.2.1 18))
theorem z_image {c g ua ga : Nat} {a1 a2 a3 : Int32} {N0 R0 : Nat → Nat} {σ : k_SB} (h : KK c g ua ga a1 a2 a3 N0 R0 σ) : ∃ o, fx_image σ = some o ∧ o.1 = 0 ∧ JJ c g ua ga 0 a1 a2 a3 N0 R0 N0 R0 (ux_image σ o) := by
  obtain ⟨⟨t1, t2, t3, t4, t5, t6, t7, hT⟩, i1, n1, n2, hN⟩ := h
  obtain ⟨L', W', e, k⟩ := x3_kp (ln := σ.2.2.1 17) (rw_ := σ.2.2.1 18) kFU 0 (σ.2.2.1 10) (σ.2.2.1 11) (by decide) (by decide) (fun s hs => absurd hs (Nat.not_lt_zero _))
  rw [nI_0] at e
  have q : fx_image σ = some (0, 0, 1, L', W') := by
    show f_X11_image (σ.1 0) (σ.1 12) (σ.1 29) (σ.2.2.1 10) (σ.2.2.1 11) (σ.2.2.1 17) (σ.2.2.1 18) = _
    rw [i1, t1, f_X11_image, if_neg (by decide), if_pos (by decide), f_X3_keep, e, bd_s, f_X11_granted, bd_s]
  refine ⟨_, q, rfl, ⟨t1, t2, t3, t4, t5, t6, t7, hT⟩, ⟨rfl, fun s hs => ?_⟩, n1, n2, hN⟩
  have a := k s (Nat.lt_of_lt_of_le hs hN.1)
  have b := hN.2 s hs
  exact ⟨a.1.trans b.2.2.2.1, a.2.trans b.2.2.2.2⟩
theorem z_lab {c g ua ga p e : Nat} {a1 a2 a3 : Int32} {N0 R0 us up as_ am al : Nat → Nat} {l1 l2 l3 : List Nat} {σ : k_SB} (hD : TD c ua ga N0 R0 us up as_ am al) (y1 : SG a1 l1) (y2 : SG a2 l2) (y3 : SG a3 l3) (hg : g ≤ 100) (he : e ≤ 480) (hp : p ≤ e) (h28 : σ.1 28 = nI e) (h : RT (σ.2.2.1 19) p 0 (TX c ua ga g l1 l2 l3 N0 R0 us up as_ am al)) : ∃ o, fx_lab (nI p) σ = some o ∧ o.2.2.2.2.2.2.2.2.2.2.2.2.2.2.2.2.2.2.2.2.2.2.2.2.2.2.2.2.2.2.2.2.2.2.2 = 2 ∧ o.1 = nI c ∧ KK c g ua ga a1 a2 a3 N0 R0 (ux_lab2 σ o) := by
  obtain ⟨fe, kd, ln, nx, num, pl, vl, wd, aD, aL, aS, sl, sr, uP, uS, nm, E, hS, hU, hA⟩ := rd_all (tb := σ.2.2.1 19) (e := p) (by omega) hD y1 y2 y3 hg h (σ.1 10) (σ.1 4) (σ.1 8) (σ.1 5) (σ.1 6) (σ.1 7) (σ.1 9) (σ.1 11) (σ.1 20) (σ.1 27) (σ.1 22) (σ.1 24) (σ.1 21) (σ.1 26) (σ.1 23) (σ.1 25) (σ.2.1 0) (σ.2.2.1 3) (σ.2.2.1 4) (σ.2.2.1 5) (σ.2.2.1 6) (σ.2.2.1 7) (σ.2.2.1 8) (σ.2.2.1 9) (σ.2.2.2 0)
  obtain ⟨L', W', E2, hC⟩ := x9_copy1 (c := c) (cnt := σ.1 19) (ln := sl) (rw_ := sr) (σ.2.2.1 17) (σ.2.2.1 18)
  obtain ⟨⟨c1, c2⟩, u2, g2, dS, dU, dA⟩ := hD
  have sv : ∀ (L W : Nat → Int32), (∀ s, s < c → L s = sl s ∧ W s = sr s) → SVx c N0 R0 L W := fun L W h => ⟨by omega, fun s hs => ⟨(dS s hs).1, (dS s hs).2.1, (dS s hs).2.2, (h s hs).1.trans (hS s hs).1, (h s hs).2.trans (hS s hs).2⟩⟩
  have q : fx_lab (nI p) σ = some (nI c, pl, 0, 0, 0, nI ga, 1, nI g, a1, a2, a3, nI ua, nI c, 0, nI c, fe, 0, kd, ln, nx, num, pl, vl, wd, 0, aD, aL, aS, nm, sl, sr, uP, uS, L', W', 2) := by
    show f_X11_lab (nI p) (σ.1 2) (σ.1 1) (σ.1 0) (σ.1 3) (σ.1 10) (σ.1 4) (σ.1 8) (σ.1 5) (σ.1 6) (σ.1 7) (σ.1 9) (σ.1 11) (σ.1 12) (σ.1 19) (σ.1 20) (σ.1 27) (σ.1 22) (σ.1 24) (σ.1 21) (σ.1 26) (σ.1 23) (σ.1 25) (σ.2.1 0) (σ.1 28) (σ.2.2.1 3) (σ.2.2.1 4) (σ.2.2.1 5) (σ.2.2.2 0) (σ.2.2.1 6) (σ.2.2.1 7) (σ.2.2.1 8) (σ.2.2.1 9) (σ.2.2.1 17) (σ.2.2.1 18) (σ.2.2.1 19) = _
    rw [h28, f_X11_lab, if_neg (nI_pos (by omega)), if_pos (nI_le hp (by omega)), E, bd_s]
    dsimp only
    rw [if_neg (show ¬ (1 : Int32) = 0 by decide), E2, bd_s]
    dsimp only
    rw [f_X11_granted, bd_s]
  refine ⟨_, q, rfl, rfl, ⟨rfl, rfl, rfl, rfl, rfl, rfl, rfl, sv _ _ (fun s hs => ⟨rfl, rfl⟩), u2, g2, fun i hi => ?_, fun i hi => ?_⟩, rfl, rfl, nI_0.symm, sv _ _ (fun s hs => hC s (by omega))⟩
  · exact ⟨us i, up i, (dU i hi).1, (dU i hi).2.1, (hU i hi).1, (hU i hi).2.1⟩
  · exact ⟨as_ i, am i, al i, (dA i hi).1, (dA i hi).2.2.1, (dA i hi).2.2.2.1, (hA i hi).1, (hA i hi).2.1, (hA i hi).2.2.2.2⟩
