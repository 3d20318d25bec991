/-! ENERGIES of rows looked at otherwise; the law's own steps, energies and looks -/
section EN
variable {n r : Nat}
theorem rM_sm (n r d : Nat) : ∀ K, rM n r d K = sm (fun k => if rS n r k = rS n r (k + d) then 0 else 1) K
  | 0 => rfl
  | K + 1 => by rw [rM, rM_sm n r d K, sm]
theorem rM_T (h1 : 1 ≤ n) (h2 : n ≤ 12) (hr : r < 2 ^ n) (d : Nat) : rM n (rT n r) d n = rM n r d n := by
  rw [rM_sm, rM_sm, ← sm_rot (f := fun k => if rS n r k = rS n r (k + d) then 0 else 1) (p := n) (fun k => by
    show (if rS n r (k + n) = rS n r (k + n + d) then 0 else 1) = _
    rw [rS_per, show k + n + d = k + d + n by omega, rS_per])]
  refine sm_congr n (fun k _ => ?_)
  show (if rS n (rT n r) k = rS n (rT n r) (k + d) then 0 else 1) = (if rS n r (k + 1) = rS n r (k + 1 + d) then 0 else 1)
  rw [rT_S h1 h2 hr, rT_S h1 h2 hr, show k + d + 1 = k + 1 + d by omega]
theorem rM_W (h1 : 1 ≤ n) (h2 : n ≤ 12) (hr : r < 2 ^ n) (d : Nat) : rM n (rW n r) d n = rM n r d n := by
  rw [rM_sm, rM_sm]
  refine sm_congr n (fun k _ => ?_)
  have a := rS_lt n r k
  have b := rS_lt n r (k + d)
  show (if rS n (rW n r) k = rS n (rW n r) (k + d) then 0 else 1) = (if rS n r k = rS n r (k + d) then 0 else 1)
  rw [rS_W h1 h2 hr, rS_W h1 h2 hr]
  by_cases e : rS n r k = rS n r (k + d)
  · rw [if_pos e, if_pos (by omega)]
  · rw [if_neg e, if_neg (by omega)]
theorem rM_V (h1 : 1 ≤ n) (h2 : n ≤ 12) (hr : r < 2 ^ n) (d : Nat) : rM n (rV n r) d n = rM n r d n := by
  have big : n + d ≤ n * (d + 1) := by
    rw [Nat.mul_succ]
    have : d ≤ n * d := Nat.le_mul_of_pos_left _ (by omega)
    omega
  generalize hK : n * (d + 1) = K at big
  rw [rM_sm, rM_sm]
  have step : sm (fun k => if rS n (rV n r) k = rS n (rV n r) (k + d) then 0 else 1) n = sm (fun k => (fun j => if rS n r j = rS n r (j + d) then 0 else 1) (K - 1 - d - k)) n := by
    refine sm_congr n (fun k hk => ?_)
    have e1 := rS_V h1 h2 hr (d + 1) (k := k) (by rw [hK]; omega)
    have e2 := rS_V h1 h2 hr (d + 1) (k := k + d) (by rw [hK]; omega)
    rw [hK] at e1 e2
    show (if rS n (rV n r) k = rS n (rV n r) (k + d) then 0 else 1) = (if rS n r (K - 1 - d - k) = rS n r (K - 1 - d - k + d) then 0 else 1)
    rw [e1, e2, show K - 1 - d - k + d = K - 1 - k by omega, show K - 1 - d - k = K - 1 - (k + d) by omega]
    by_cases e : rS n r (K - 1 - k) = rS n r (K - 1 - (k + d))
    · rw [if_pos e, if_pos e.symm]
    · rw [if_neg e, if_neg (Ne.symm e)]
  rw [step, sm_rev (fun j => if rS n r j = rS n r (j + d) then 0 else 1) (K - 1 - d) n (by omega)]
  exact sm_shift (f := fun j => if rS n r j = rS n r (j + d) then 0 else 1) (fun k => by
    show (if rS n r (k + n) = rS n r (k + n + d) then 0 else 1) = _
    rw [rS_per, show k + n + d = k + d + n by omega, rS_per]) _
theorem rM_L {a : Nat} (h1 : 1 ≤ n) (h2 : n ≤ 12) (hr : r < 2 ^ n) (d : Nat) : rM n (rL n r a) d n = rM n r d n := by
  unfold rL
  split
  · rfl
  · split
    · exact rM_W h1 h2 hr d
    · split
      · rw [rM_W h1 h2 (rV_lt h1 h2 hr)]; exact rM_V h1 h2 hr d
      · exact rM_V h1 h2 hr d
theorem rM_Ti (h1 : 1 ≤ n) (h2 : n ≤ 12) (hr : r < 2 ^ n) (d : Nat) : ∀ i, rM n (rTi n r i) d n = rM n r d n
  | 0 => rfl
  | i + 1 => by rw [rTi, rM_T h1 h2 (rTi_lt h1 h2 hr i), rM_Ti h1 h2 hr d i]
/-- two rows of one kind -/
def KIN (n r y : Nat) : Prop := ∃ a i, a < 4 ∧ y = rTi n (rL n r a) i
variable {y : Nat} {a b c : Int32}
theorem KIN_lt (h1 : 1 ≤ n) (h2 : n ≤ 12) (hr : r < 2 ^ n) (h : KIN n r y) : y < 2 ^ n := by
  obtain ⟨a, i, -, rfl⟩ := h
  exact rTi_lt h1 h2 (rL_lt h1 h2 hr) i
theorem KIN_E (h1 : 1 ≤ n) (h2 : n ≤ 12) (hr : r < 2 ^ n) (h : KIN n r y) : eE n y a b c = eE n r a b c := by
  obtain ⟨z, i, -, rfl⟩ := h
  have hl := rL_lt (a := z) h1 h2 hr
  unfold eE
  rw [rM_Ti h1 h2 hl, rM_Ti h1 h2 hl, rM_Ti h1 h2 hl, rM_L h1 h2 hr, rM_L h1 h2 hr, rM_L h1 h2 hr]
theorem KIN_A (h1 : 1 ≤ n) (h2 : n ≤ 12) (hr : r < 2 ^ n) (h : KIN n r y) (m : Nat) : Ag n y m = Ag n r m := by
  obtain ⟨z, i, -, rfl⟩ := h
  rw [Ag_Ti h1 h2 (rL_lt h1 h2 hr), Ag_L h1 h2 hr]
theorem KIN_R (h1 : 1 ≤ n) (h2 : n ≤ 12) (hr : r < 2 ^ n) (h : KIN n r y) : rRep n y = rRep n r := by
  obtain ⟨z, i, -, rfl⟩ := h
  rw [rep_Ti h1 h2 (rL_lt h1 h2 hr), rep_L h1 h2 hr]
theorem KIN_least {x : Nat} (h1 : 1 ≤ n) : KIN n r (rLA n r x 4) := by
  obtain ⟨a, a1, a2, a3⟩ := rLA_at n r x 3
  obtain ⟨j, j1, j2⟩ := rMn_at n (rL n r a) (n - 1)
  exact ⟨a, j, a1, a3.trans j2⟩
theorem KIN_alike {x : Nat} (h1 : 1 ≤ n) (h2 : n ≤ 12) (hr : r < 2 ^ n) (hy : y < 2 ^ n) (hx : x < 4) (h : rLA n r x 4 = rLA n y x 4) : KIN n r y := by
  obtain ⟨a, a1, a2, a3⟩ := (rLA_iff h1 h2 hr hy hx).mp h.symm
  obtain ⟨i, i1, i2⟩ := (rM0_iff h1 h2 (rL_lt h1 h2 hr) hy).mp a3
  exact ⟨a, i, a1, i2.symm⟩
theorem rLA_0 (n r : Nat) : rLA n r 0 4 = rM0 n r := by
  obtain ⟨a, a1, a2, a3⟩ := rLA_at n r 0 3
  have : a = 0 := by
    unfold rSub at a2
    rcases (by omega : a = 0 ∨ a = 1 ∨ a = 2 ∨ a = 3) with rfl | rfl | rfl | rfl
    · rfl
    all_goals exact absurd a2 (by decide)
  rw [a3, this]; rfl
theorem rLA_r {x : Nat} (n r : Nat) : rLA n r x 4 ≤ r := by
  have h := rLA_le (n := n) (r := r) (rSub_0 x) 4 (by decide)
  exact Nat.le_trans h (rMn_le (n := n) (s := r) (n - 1) 0 (Nat.zero_le _))
theorem rLA_l0 {x : Nat} (n r : Nat) : rLA n r x 4 ≤ rLA n r 0 4 := by
  rw [rLA_0]
  exact rLA_le (n := n) (r := r) (rSub_0 x) 4 (by decide)
theorem nwC_0 (u : Nat → Nat) : nwC u 0 4 = 1 := by
  have s0 : rSub 0 0 = 1 := rfl
  have s1 : rSub 1 0 = 0 := rfl
  have s2 : rSub 2 0 = 0 := rfl
  have s3 : rSub 3 0 = 0 := rfl
  have z : ∀ a b, rSub a 0 = 0 → nwk u 0 a b = 0 := fun a b h => by
    rcases nwk_spec u 0 a b with ⟨-, g, -⟩ | ⟨g, -⟩
    · omega
    · exact g
  rw [nwC, nwC, nwC, nwC, nwC, z 1 1 s1, z 2 2 s2, z 3 3 s3, nwk, s0]
/-! the ground -/
theorem sm_ge2 {f : Nat → Nat} {a b : Nat} (h : a < b) : ∀ K, b < K → f a + f b ≤ sm f K
  | 0, hK => absurd hK (Nat.not_lt_zero _)
  | K + 1, hK => by
    rw [sm]
    by_cases g : b = K
    · subst g
      have := sm_ge (f := f) (a := a) b h
      omega
    · have := sm_ge2 (f := f) h K (by omega)
      omega
theorem gN_sm (n : Nat) (a b c v : Int32) : ∀ K, gN n a b c v K = sm (fun k => if eE n k a b c = v then 1 else 0) K
  | 0 => rfl
  | K + 1 => by rw [gN, gN_sm n a b c v K, sm]
theorem gC_2 (h1 : 1 ≤ n) (h2 : n ≤ 12) : 2 ≤ gC n a b c (2 ^ n - 1) := by
  have p := Nat.two_pow_pos n
  have l := gR_le n a b c (2 ^ n - 1)
  have e := gR_E n a b c (2 ^ n - 1)
  have hr : gR n a b c (2 ^ n - 1) < 2 ^ n := by omega
  rw [← gN_C, gN_sm, show 2 ^ n - 1 + 1 = 2 ^ n by omega]
  generalize gR n a b c (2 ^ n - 1) = r0 at *
  have ev : 2 ^ n = 2 * 2 ^ (n - 1) := by rw [← Nat.pow_succ']; congr 1; omega
  have e2 : eE n (rW n r0) a b c = eE n r0 a b c := KIN_E (y := rW n r0) h1 h2 hr ⟨1, 0, by decide, rfl⟩
  have w : rW n r0 = 2 ^ n - 1 - r0 := rfl
  have ne : rW n r0 ≠ r0 := by omega
  have wl : rW n r0 < 2 ^ n := by omega
  have f0 : (if eE n r0 a b c = gE n a b c (2 ^ n - 1) then 1 else 0) = 1 := if_pos e
  have f1 : (if eE n (rW n r0) a b c = gE n a b c (2 ^ n - 1) then 1 else 0) = 1 := if_pos (e2.trans e)
  rcases Nat.lt_or_ge r0 (rW n r0) with g | g
  · have := sm_ge2 (f := fun k => if eE n k a b c = gE n a b c (2 ^ n - 1) then 1 else 0) g (2 ^ n) wl
    simp only [f0, f1] at this
    exact this
  · have := sm_ge2 (f := fun k => if eE n k a b c = gE n a b c (2 ^ n - 1) then 1 else 0) (show rW n r0 < r0 by omega) (2 ^ n) hr
    simp only [f0, f1] at this
    exact this
theorem gC_top (h2 : n ≤ 12) : gC n a b c (2 ^ n - 1) ≤ 2 ^ n := by
  have := gC_le n a b c (2 ^ n - 1)
  have := Nat.two_pow_pos n
  omega
theorem gE_r (hr : r < 2 ^ n) : gE n a b c (2 ^ n - 1) ≤ eE n r a b c := gE_le n a b c (2 ^ n - 1) r (by omega)
/-! the law's own -/
abbrev stv (b : Nat) : Int32 := if b = 1 then 1 else -1
theorem stv_eq {b b' : Nat} (h : b < 2) (h' : b' < 2) : stv b = stv b' ↔ b = b' := by
  rcases (by omega : b = 0 ∨ b = 1) with rfl | rfl <;> rcases (by omega : b' = 0 ∨ b' = 1) with rfl | rfl <;> decide
theorem l_step (h1 : 1 ≤ n) (h2 : n ≤ 12) (hr : r < 2 ^ n) {k : Nat} (hk : k < 2 ^ 31) : f_L_step (nI n) (nI r) (nI k) = some (stv (rS n r k)) := by
  have m := Nat.mod_lt k (show 0 < n by omega)
  have s := rS_lt n r k
  rw [f_L_step, gd_t _ (nI_ne0 h1 (by omega)), pk_rem hk (by omega) (by omega), rw_bit h2 hr m, rS_mod]
  unfold stv
  rcases (by omega : rS n r k = 0 ∨ rS n r k = 1) with e | e
  · rw [e]; rfl
  · rw [e]; rfl
theorem en_r1 (x e t : Int32) : (x - e * t) + -e = x - e * (t + 1) := by grobner
theorem en_r2 (x e t : Int32) : (x - e * t) + e = x - e * (t - 1) := by grobner
theorem en_r3 (k m : Int32) : (k + 1) - 2 * (m + 1) = (k - 2 * m) - 1 := by grobner
theorem en_r4 (k m : Int32) : (k + 1) - 2 * m = (k - 2 * m) + 1 := by grobner
theorem l_energy_14 {K : Int32 → Int32 → Int32 → Int32 → (Nat → Int32) → Option Int32} (h1 : 1 ≤ n) (h2 : n ≤ 12) (hr : r < 2 ^ n) {d : Nat} (hd : 1 ≤ d) (hd3 : d ≤ 3) (w : Nat → Int32) (x : Int32) : ∀ (f k : Nat), k ≤ n → n - k < f →
    f_L_energy_14 K f (nI n) (nI r) (x - w (d - 1) * (nI k - (2 : Int32) * nI (rM n r d k))) (nI d) (nI k) w = K (nI n) (nI r) (x - w (d - 1) * (nI n - (2 : Int32) * nI (rM n r d n))) (nI (d + 1)) w
  | 0, _, _, hf => absurd hf (Nat.not_lt_zero _)
  | f + 1, k, hk, hf => by
    rw [f_L_energy_14]
    by_cases q : k = n
    · subst q
      rw [if_pos (Int32.le_refl _), nI_1]
    · have s0 := rS_lt n r k
      have s1 := rS_lt n r (k + d)
      have ml := rM_le n r d k
      have ed : nI d - (1 : Int32) = nI (d - 1) := nI_m1 hd
      have go := l_energy_14 (K := K) h1 h2 hr hd hd3 w x f (k + 1) (by omega) (by omega)
      rw [if_neg (nI_ge (by omega) (by omega)), l_step h1 h2 hr (by omega), bd_s, nI_add, l_step h1 h2 hr (by omega), bd_s, ed]
      by_cases e : rS n r k = rS n r (k + d)
      · rw [if_pos ((stv_eq s0 s1).mpr e), gd_t _ (nI_in (by omega) (by decide)), nI_clamp (by omega), f_L_energy_57, lt_q, nI_1, en_r1, ← en_r4, nI_1]
        rw [show rM n r d (k + 1) = rM n r d k by rw [rM, if_pos e, Nat.add_zero]] at go
        exact go
      · rw [if_neg (fun z => e ((stv_eq s0 s1).mp z)), gd_t _ (nI_in (by omega) (by decide)), nI_clamp (by omega), f_L_energy_57, lt_q, nI_1, en_r2, ← en_r3, nI_1, nI_1]
        rw [show rM n r d (k + 1) = rM n r d k + 1 by rw [rM, if_neg e]] at go
        exact go
theorem en_r5 (x e : Int32) : x = x - e * (0 - 2 * 0) := by grobner
theorem en_r6 (a b c u v w : Int32) : (((0 : Int32) - a * u) - b * v) - c * w = ((-a) * u - b * v) - c * w := by grobner
theorem l_energy (h1 : 1 ≤ n) (h2 : n ≤ 12) (hr : r < 2 ^ n) (w : Nat → Int32) : f_L_energy (nI n) (nI r) w = some (eE n r (w 0) (w 1) (w 2)) := by
  have far : ∀ (d : Nat) (f : Nat) (x : Int32), 1 ≤ d → d ≤ 3 → f_L_energy_5 (f + 1) (nI n) (nI r) x (nI d) w = f_L_energy_5 f (nI n) (nI r) (x - w (d - 1) * (nI n - (2 : Int32) * nI (rM n r d n))) (nI (d + 1)) w := fun d f x d1 d3 => by
    have go := l_energy_14 (K := fun x1 x2 x3 x4 w_a0 => f_L_energy_5 f x1 x2 x3 x4 w_a0) h1 h2 hr d1 d3 w x kFU 0 (Nat.zero_le _) (by unfold kFU; omega)
    rw [show x - w (d - 1) * (nI 0 - (2 : Int32) * nI (rM n r d 0)) = x from (en_r5 x (w (d - 1))).symm, show nI 0 = (0 : Int32) from rfl] at go
    rw [f_L_energy_5, if_neg (show ¬ (4 : Int32) ≤ nI d from nI_ge (b := 4) (by omega) (by decide))]
    exact go
  have s1 := far 1 99999 0 (by decide) (by decide)
  have s2 := fun x => far 2 99998 x (by decide) (by decide)
  have s3 := fun x => far 3 99997 x (by decide) (by decide)
  rw [f_L_energy]
  refine (show f_L_energy_5 kFU (nI n) (nI r) 0 1 w = f_L_energy_5 (99999 + 1) (nI n) (nI r) 0 (nI 1) w from rfl).trans ?_
  rw [s1]
  refine (s2 _).trans ?_
  refine (s3 _).trans ?_
  rw [show (99997 : Nat) = 99996 + 1 from rfl, f_L_energy_5, if_pos (show (4 : Int32) ≤ nI (3 + 1) by decide)]
  unfold eE
  exact congrArg some (en_r6 _ _ _ _ _ _)
theorem l_slipped (h2 : n ≤ 12) {k : Nat} (hk : k < n) : f_L_slipped (nI n) (nI r) (nI k) = some (nI (rF n r k)) := by
  rw [f_L_slipped, rf_bit h2 hk, nI_xor]; rfl
theorem top_next {t k : Nat} (hk : k < n) : t / 2 ^ (n - (k + 1)) = 2 * (t / 2 ^ (n - k)) + rS n t k := by
  unfold rS
  rw [Nat.mod_eq_of_lt hk, show n - k = (n - (k + 1)) + 1 by omega, Nat.pow_succ, ← Nat.div_div_eq_div_mul, show n - 1 - k = n - (k + 1) by omega]
  have := Nat.div_add_mod (t / 2 ^ (n - (k + 1))) 2
  omega
theorem l_look_6 (h1 : 1 ≤ n) (h2 : n ≤ 12) (hr : r < 2 ^ n) {t fr tw : Nat} (ht : t < 2 ^ n) (hf : fr ≤ 1) (hw : tw ≤ 1) (hb : ∀ k, k < n → rS n t k = if tw = 0 then rS n r (k + fr) else 1 - rS n r (k + fr)) : ∀ (f k : Nat), k ≤ n → n - k < f →
    f_L_look_6 f (nI n) (nI r) (nI fr) (nI tw) (0 : Int32) (nI (t / 2 ^ (n - k))) (nI k) = some (nI t)
  | 0, _, _, hf => absurd hf (Nat.not_lt_zero _)
  | f + 1, k, hk, hff => by
    rw [f_L_look_6]
    by_cases q : k = n
    · subst q
      rw [if_pos (Int32.le_refl _), Nat.sub_self, Nat.pow_zero, Nat.div_one]
    · have go := l_look_6 h1 h2 hr ht hf hw hb f (k + 1) (by omega) (by omega)
      have s := rS_lt n r (k + fr)
      have tk := top_next (n := n) (t := t) (k := k) (by omega)
      rw [hb k (by omega)] at tk
      rw [tk] at go
      rw [if_neg (nI_ge (by omega) (by omega)), if_pos rfl, nI_add, Nat.add_comm fr k, l_step h1 h2 hr (by omega), bd_s, f_L_look_43]
      have e2 : (2 : Int32) * nI (t / 2 ^ (n - k)) = nI (2 * (t / 2 ^ (n - k))) := pk_mul 2 _
      rcases (by omega : tw = 0 ∨ tw = 1) with rfl | rfl
      · rw [if_pos nI_0, f_L_look_54]
        rw [if_pos rfl] at go
        rcases (by omega : rS n r (k + fr) = 0 ∨ rS n r (k + fr) = 1) with e | e
        · rw [e] at go ⊢
          rw [if_pos (show stv 0 ≤ 0 by decide), f_L_look_68, lt_q, e2, show (0 : Int32) = nI 0 from rfl, nI_add, nI_1]
          exact go
        · rw [e] at go ⊢
          rw [if_neg (show ¬ stv 1 ≤ 0 by decide), f_L_look_68, lt_q, e2, nI_1, nI_1]
          exact go
      · rw [if_neg (show ¬ nI 1 = 0 by decide), lt_q, f_L_look_54]
        rw [if_neg (show ¬ 1 = 0 by decide)] at go
        rcases (by omega : rS n r (k + fr) = 0 ∨ rS n r (k + fr) = 1) with e | e
        · rw [e] at go ⊢
          rw [if_neg (show ¬ -stv 0 ≤ 0 by decide), f_L_look_68, lt_q, e2, nI_1, nI_1]
          exact go
        · rw [e] at go ⊢
          rw [if_pos (show -stv 1 ≤ 0 by decide), f_L_look_68, lt_q, e2, show (0 : Int32) = nI 0 from rfl, nI_add, nI_1]
          exact go
theorem l_turn (h1 : 1 ≤ n) (h2 : n ≤ 12) (hr : r < 2 ^ n) : f_L_look (nI n) (nI r) (1 : Int32) (0 : Int32) (0 : Int32) = some (nI (rT n r)) := by
  have ht := rT_lt h1 h2 hr
  have go := l_look_6 (fr := 1) (tw := 0) h1 h2 hr ht (by decide) (by decide) (fun k _ => by rw [if_pos rfl, rT_S h1 h2 hr]) kFU 0 (Nat.zero_le _) (by unfold kFU; omega)
  rw [Nat.sub_zero, Nat.div_eq_of_lt ht] at go
  rw [f_L_look]; exact go
theorem l_twin (h1 : 1 ≤ n) (h2 : n ≤ 12) (hr : r < 2 ^ n) : f_L_look (nI n) (nI r) (0 : Int32) (1 : Int32) (0 : Int32) = some (nI (rW n r)) := by
  have ht := rW_lt hr
  have go := l_look_6 (fr := 0) (tw := 1) h1 h2 hr ht (by decide) (by decide) (fun k _ => by rw [if_neg (by decide), rS_W h1 h2 hr]; rfl) kFU 0 (Nat.zero_le _) (by unfold kFU; omega)
  rw [Nat.sub_zero, Nat.div_eq_of_lt ht] at go
  rw [f_L_look]; exact go
end EN
