/-! ENERGIES, ONE BY ONE -/
/-- of the first k steps, how many are unlike the one d on -/
def rM (n r d : Nat) : Nat → Nat
  | 0 => 0
  | k + 1 => rM n r d k + (if rS n r k = rS n r (k + d) then 0 else 1)
theorem rM_P1 {n r : Nat} (h1 : 1 ≤ n) (h2 : n ≤ 12) (hr : r < 2 ^ n) : rM n r 1 n = rP (Nat.xor r (rTi n r 1)) := of_decide_eq_true (allR_at (p := fun n r => decide (rM n r 1 n = rP (Nat.xor r (rTi n r 1)))) (by decide +kernel) h1 h2 hr)
theorem rM_P2 {n r : Nat} (h1 : 1 ≤ n) (h2 : n ≤ 12) (hr : r < 2 ^ n) : rM n r 2 n = rP (Nat.xor r (rTi n r 2)) := of_decide_eq_true (allR_at (p := fun n r => decide (rM n r 2 n = rP (Nat.xor r (rTi n r 2)))) (by decide +kernel) h1 h2 hr)
theorem rM_P3 {n r : Nat} (h1 : 1 ≤ n) (h2 : n ≤ 12) (hr : r < 2 ^ n) : rM n r 3 n = rP (Nat.xor r (rTi n r 3)) := of_decide_eq_true (allR_at (p := fun n r => decide (rM n r 3 n = rP (Nat.xor r (rTi n r 3)))) (by decide +kernel) h1 h2 hr)
theorem rM_P {n r d : Nat} (h1 : 1 ≤ n) (h2 : n ≤ 12) (hr : r < 2 ^ n) (hd : 1 ≤ d ∧ d < 4) : rM n r d n = rP (Nat.xor r (rTi n r d)) := by
  rcases (by omega : d = 1 ∨ d = 2 ∨ d = 3) with rfl | rfl | rfl
  · exact rM_P1 h1 h2 hr
  · exact rM_P2 h1 h2 hr
  · exact rM_P3 h1 h2 hr
/-- the energy of a row, near, second, third being a, b, c -/
def eE (n r : Nat) (a b c : Int32) : Int32 := ((-a) * (nI n - (2 : Int32) * nI (rM n r 1 n)) - b * (nI n - (2 : Int32) * nI (rM n r 2 n))) - c * (nI n - (2 : Int32) * nI (rM n r 3 n))
theorem nI_xor (a b : Nat) : nI a ^^^ nI b = nI (Nat.xor a b) := Int32.toBitVec_inj.mp (by
  show BitVec.ofNat 32 a ^^^ BitVec.ofNat 32 b = BitVec.ofNat 32 (a ^^^ b)
  exact BitVec.ofNat_xor.symm)
theorem rx_lt {n a b : Nat} (ha : a < 2 ^ n) (hb : b < 2 ^ n) : Nat.xor a b < 2 ^ n := Nat.xor_lt_two_pow ha hb
theorem x4_products {n r d : Nat} (h1 : 1 ≤ n) (h2 : n ≤ 12) (hr : r < 2 ^ n) (hd : 1 ≤ d ∧ d < 4) : f_X4_products (nI r) (nI (rTi n r d)) (nI n) = some (nI n - (2 : Int32) * nI (rM n r d n)) := by
  rw [f_X4_products, nI_xor, j6_bitCount (r4096 h2 (rx_lt hr (rTi_lt h1 h2 hr d))), bd_s, rM_P h1 h2 hr hd]
theorem x4_energyOf {n r : Nat} {a b c : Int32} (h1 : 1 ≤ n) (h2 : n ≤ 12) (hr : r < 2 ^ n) : f_X4_energyOf (nI r) (nI n) a b c = some (eE n r a b c) := by
  rw [f_X4_energyOf, x8_turned h1 h2 hr, bd_s, show rT n r = rTi n r 1 from rfl, x8_turned h1 h2 (rTi_lt h1 h2 hr 1), bd_s, show rT n (rTi n r 1) = rTi n r 2 from rfl, x8_turned h1 h2 (rTi_lt h1 h2 hr 2), bd_s, show rT n (rTi n r 2) = rTi n r 3 from rfl,
    x4_products h1 h2 hr (by decide), bd_s, x4_products h1 h2 hr (by decide), bd_s, x4_products h1 h2 hr (by decide), bd_s, eE]
theorem rSv_mul {a b : Nat} (ha : a < 2) (hb : b < 2) : rSv a * rSv b = (1 : Int32) - (2 : Int32) * nI (if a = b then 0 else 1) := by
  rcases (by omega : a = 0 ∨ a = 1) with rfl | rfl <;> rcases (by omega : b = 0 ∨ b = 1) with rfl | rfl <;> decide
/-- the energy as the reference adds it up -/
def eK (n r : Nat) (a b c : Int32) (k : Nat) : Int32 := ((-a) * (nI k - (2 : Int32) * nI (rM n r 1 k)) - b * (nI k - (2 : Int32) * nI (rM n r 2 k))) - c * (nI k - (2 : Int32) * nI (rM n r 3 k))
theorem eK_r1 (a b c t u1 u2 u3 : Int32) : t * ((a * u1 + b * u2) + c * u3) = a * (t * u1) + b * (t * u2) + c * (t * u3) := by
  grobner
theorem eK_r2 (a b c K M1 M2 M3 e1 e2 e3 : Int32) : (((-a) * (K - 2 * M1) - b * (K - 2 * M2)) - c * (K - 2 * M3)) - (a * (1 - 2 * e1) + b * (1 - 2 * e2) + c * (1 - 2 * e3)) = (((-a) * ((K + 1) - 2 * (M1 + e1)) - b * ((K + 1) - 2 * (M2 + e2))) - c * ((K + 1) - 2 * (M3 + e3))) := by
  grobner
theorem eK_ring (a b c K M1 M2 M3 t u1 u2 u3 e1 e2 e3 : Int32) (g1 : t * u1 = 1 - 2 * e1) (g2 : t * u2 = 1 - 2 * e2) (g3 : t * u3 = 1 - 2 * e3) :
    (((-a) * (K - 2 * M1) - b * (K - 2 * M2)) - c * (K - 2 * M3)) - t * ((a * u1 + b * u2) + c * u3) = (((-a) * ((K + 1) - 2 * (M1 + e1)) - b * ((K + 1) - 2 * (M2 + e2))) - c * ((K + 1) - 2 * (M3 + e3))) := by
  rw [eK_r1, g1, g2, g3]
  exact eK_r2 a b c K M1 M2 M3 e1 e2 e3
theorem eK_succ (n r : Nat) (a b c : Int32) (k : Nat) : eK n r a b c k - (rSv (rS n r k) * (((a * rSv (rS n r (k + 1))) + (b * rSv (rS n r (k + 2)))) + (c * rSv (rS n r (k + 3))))) = eK n r a b c (k + 1) := by
  have hb := rS_lt n r
  have r1 : nI (rM n r 1 (k + 1)) = nI (rM n r 1 k) + nI (if rS n r k = rS n r (k + 1) then 0 else 1) := (nI_add _ _).symm
  have r2 : nI (rM n r 2 (k + 1)) = nI (rM n r 2 k) + nI (if rS n r k = rS n r (k + 2) then 0 else 1) := (nI_add _ _).symm
  have r3 : nI (rM n r 3 (k + 1)) = nI (rM n r 3 k) + nI (if rS n r k = rS n r (k + 3) then 0 else 1) := (nI_add _ _).symm
  rw [eK, eK, r1, r2, r3, ← nI_1]
  exact eK_ring a b c (nI k) _ _ _ _ _ _ _ _ _ _ (rSv_mul (hb k) (hb (k + 1))) (rSv_mul (hb k) (hb (k + 2))) (rSv_mul (hb k) (hb (k + 3)))
theorem eK_0 (n r : Nat) (a b c : Int32) : eK n r a b c 0 = 0 := by
  show ((-a) * (nI 0 - (2 : Int32) * nI 0) - b * (nI 0 - (2 : Int32) * nI 0)) - c * (nI 0 - (2 : Int32) * nI 0) = 0
  rw [show nI 0 - (2 : Int32) * nI 0 = 0 by decide]
  grobner
theorem x13_energyOf_5 {n r : Nat} {a b c : Int32} (h1 : 1 ≤ n) (h2 : n ≤ 12) (hr : r < 2 ^ n) : ∀ (f k : Nat), k ≤ n → n - k < f →
    f_X13_energyOf_5 f (nI r) (nI n) (eK n r a b c k) (nI k) a b c = some (eE n r a b c)
  | 0, _, _, h => absurd h (Nat.not_lt_zero _)
  | f + 1, k, hk, hf => by
    rw [f_X13_energyOf_5]
    by_cases q : n ≤ k
    · rw [if_pos ((nI_leI (by omega) (by omega)).mpr q), show k = n by omega]; rfl
    · rw [if_neg (fun z => q ((nI_leI (by omega) (by omega)).mp z)), x13_step h1 h2 hr (by omega), bd_s, show nI k + (1 : Int32) = nI (k + 1) from nI_add k 1, show nI k + (2 : Int32) = nI (k + 2) from nI_add k 2, show nI k + (3 : Int32) = nI (k + 3) from nI_add k 3,
        x13_step h1 h2 hr (by omega), bd_s, x13_step h1 h2 hr (by omega), bd_s, x13_step h1 h2 hr (by omega), bd_s, lt_q, eK_succ]
      exact x13_energyOf_5 h1 h2 hr f (k + 1) (by omega) (by omega)
theorem x13_energyOf {n r : Nat} {a b c : Int32} (h1 : 1 ≤ n) (h2 : n ≤ 12) (hr : r < 2 ^ n) : f_X13_energyOf (nI r) (nI n) a b c = some (eE n r a b c) := by
  have h := x13_energyOf_5 (a := a) (b := b) (c := c) h1 h2 hr kFU 0 (Nat.zero_le _) (by unfold kFU; omega)
  rw [eK_0] at h
  exact h
theorem q_energy {c : Nat} {L R V : Nat → Int32} (h : SV c L R V) (p t a b d e1' e2' e3' : Int32) : ∃ x y : Int32, y ≠ 4 ∧ f_X11_energy p t (nI c) e1' e2' e3' L R = some (x, y) ∧ f_X13_energy p a b d e1' e2' (nI c) e3' V = some (x, 0, y, -1) := by
  rcases q_sv h p with ⟨s, n, r, hs, hs5, h1, h2, hr, -, -, -, e1, e2, e3, e4, e5, e6⟩ | ⟨e1, e2⟩
  · have h1' : 1 ≤ n := by omega
    refine ⟨eE n r e1' e2' e3', 0, by decide, ?_, ?_⟩
    · simp only [f_X11_energy, e1, e3, e4, bd_s, if_true, x4_energyOf h1' h2 hr, f_X11_granted]
    · simp only [f_X13_energy, e2, e5, e6, bd_s, i10, if_false, x13_energyOf h1' h2 hr, f_X13_good]
  · refine ⟨-1000000, 1, by decide, ?_, ?_⟩
    · simp only [f_X11_energy, e1, bd_s, i10, if_false, f_X11_refused]
    · simp only [f_X13_energy, e2, bd_s, if_true, f_X13_lost, f_X13_refused]
/-- a stack by its number -/
theorem sv_at {c s : Nat} {L R V : Nat → Int32} (h : SV c L R V) (hs : s < c) : ∃ n r : Nat, s < 5 ∧ 1 ≤ n ∧ 2 ≤ n ∧ n ≤ 12 ∧ r < 2 ^ n ∧ f_X9_row (nI s) R = some (nI r) ∧ f_X9_steps (nI s) L = some (nI n) ∧ f_X13_row (nI s) V = some (nI r) ∧ f_X13_steps (nI s) V = some (nI n) := by
  obtain ⟨n, r, a1, a2, a3, a4, a5, a6, a7⟩ := h.2 s hs
  have h5 : s < 5 := Nat.lt_of_lt_of_le hs h.1
  exact ⟨n, r, h5, by omega, a1, a2, a3, by rw [x9_row h5, a5], by rw [x9_steps h5, a4], by rw [x13_row h5, a7], by rw [x13_steps h5, a6]⟩
theorem q_calm {c : Nat} {L R V : Nat → Int32} (h : SV c L R V) (t a b d w e1' e2' e3' : Int32) : ∀ (f g s k : Nat) (n r : Nat), s < c → 1 ≤ n → n ≤ 12 → r < 2 ^ n → f_X9_row (nI s) R = some (nI r) → f_X9_steps (nI s) L = some (nI n) → f_X13_row (nI s) V = some (nI r) → f_X13_steps (nI s) V = some (nI n) → k ≤ c → c - k < f → c - k < g →
    ∃ x : Int32, f_X11_calmest_45 f (nI s) (eE n r e1' e2' e3') (nI k) t (nI c) w e1' e2' e3' L R = some (x, 0) ∧ f_X13_calmest_22 g (nI s) (nI k) a b d e1' e2' (nI c) e3' V = some (x, a, 0, -1)
  | 0, _, _, _, _, _, _, _, _, _, _, _, _, _, _, hf, _ => absurd hf (Nat.not_lt_zero _)
  | _ + 1, 0, _, _, _, _, _, _, _, _, _, _, _, _, _, _, hg => absurd hg (Nat.not_lt_zero _)
  | f + 1, g + 1, s, k, n, r, hs, h1, h2, hr, a1, a2, a3, a4, hk, hf, hg => by
    have hc := h.1
    rw [f_X11_calmest_45, f_X13_calmest_22]
    by_cases q : c ≤ k
    · have z := (nI_leI (a := c) (b := k) (by omega) (by omega)).mpr q
      rw [if_pos z, if_pos z]
      exact ⟨nI s, rfl, rfl⟩
    · have z : ¬ nI c ≤ nI k := fun z => q ((nI_leI (by omega) (by omega)).mp z)
      obtain ⟨n', r', g5, g1, -, g2, gr, b1, b2, b3, b4⟩ := sv_at h (show k < c by omega)
      rw [if_neg z, if_neg z]
      simp only [a1, a2, a3, a4, b1, b2, b3, b4, bd_s, x4_energyOf g1 g2 gr, x13_energyOf g1 g2 gr, x13_energyOf h1 h2 hr]
      by_cases e : (eE n r e1' e2' e3') * nI n' ≤ (eE n' r' e1' e2' e3') * nI n
      · rw [if_pos e, if_pos e]
        have IH := q_calm h t a b d w e1' e2' e3' f g s (k + 1) n r hs h1 h2 hr a1 a2 a3 a4 (by omega) (by omega) (by omega)
        rw [f_X11_calmest_110, f_X13_calmest_78, nI_1]; exact IH
      · rw [if_neg e, if_neg e]
        have IH := q_calm h t a b d w e1' e2' e3' f g k (k + 1) n' r' (by omega) g1 g2 gr b1 b2 b3 b4 (by omega) (by omega) (by omega)
        rw [f_X11_calmest_110, f_X13_calmest_78, nI_1]; exact IH
theorem q_calmest {c : Nat} {L R V : Nat → Int32} (h : SV c L R V) (hc : 1 ≤ c) (t a b d e1' e2' e3' : Int32) : ∃ x y : Int32, y ≠ 4 ∧ f_X11_calmest t (nI c) 1 e1' e2' e3' L R = some (x, y) ∧ f_X13_calmest a b d e1' e2' (nI c) e3' V = some (x, 0, y, -1) := by
  have h5 := h.1
  obtain ⟨n, r, -, h1, -, h2, hr, b1, b2, b3, b4⟩ := sv_at h (show 0 < c by omega)
  obtain ⟨x, r1, r2⟩ := q_calm h t 0 b d 1 e1' e2' e3' kFU kFU 0 1 n r hc h1 h2 hr b1 b2 b3 b4 hc (by unfold kFU; omega) (by unfold kFU; omega)
  rw [nI_0] at b1 b2
  exact ⟨x, 0, by decide, by rw [f_X11_calmest, if_neg (by decide), b1, bd_s, b2, bd_s, x4_energyOf h1 h2 hr, bd_s]; exact r1, r2⟩
/-! SLIPS AND FAULTS -/
def rF (n r k : Nat) : Nat := Nat.xor r (2 ^ (n - 1 - k))
def rO (n r k : Nat) : Nat := Nat.xor r (2 ^ (n - k) - 1)
theorem rF_lt {n r k : Nat} (h1 : 1 ≤ n) (hr : r < 2 ^ n) : rF n r k < 2 ^ n := rx_lt hr (Nat.pow_lt_pow_right (by decide) (by omega))
theorem rO_lt {n r k : Nat} (hr : r < 2 ^ n) : rO n r k < 2 ^ n := rx_lt hr (by
  have := Nat.pow_le_pow_right (n := 2) (by decide) (show n - k ≤ n by omega)
  have := Nat.two_pow_pos (n - k)
  omega)
theorem rf_bit {n k : Nat} (h2 : n ≤ 12) (hk : k < n) : (1 : Int32) <<< (((nI n - (1 : Int32)) - nI k) &&& 31) = nI (2 ^ (n - 1 - k)) := by
  have := Nat.pow_le_pow_right (n := 2) (by decide) (show n - 1 - k ≤ 12 by omega)
  have e := pk_shlN (n := 1) _ _ (rw_sh h2 hk) (by omega)
  rw [Nat.one_mul] at e
  exact e
theorem x8_bit {n k : Nat} (h2 : n ≤ 12) (hk : k < n) : f_X8_bit (nI n) (nI k) = some (nI (2 ^ (n - 1 - k))) := by rw [f_X8_bit, rf_bit h2 hk]
theorem x13_slipped {n r k : Nat} (h2 : n ≤ 12) (hk : k < n) : f_X13_slipped (nI r) (nI n) (nI k) = some (nI (rF n r k)) := by rw [f_X13_slipped, rf_bit h2 hk, nI_xor, rF]
theorem x8_all {n : Nat} (h2 : n ≤ 12) : f_X8_all (nI n) = some (nI (2 ^ n - 1)) := of_decide_eq_true (allB_at (N := 13) (p := fun n => decide (f_X8_all (nI n) = some (nI (2 ^ n - 1)))) (by decide +kernel) n (by omega))
theorem x8_otherFrom {n r k : Nat} (h2 : n ≤ 12) (hk : k ≤ n) : f_X8_otherFrom (nI r) (nI n) (nI k) = some (nI (rO n r k)) := by rw [f_X8_otherFrom, pk_sub hk, x8_all (by omega), bd_s, nI_xor, rO]
theorem x13_faulted {n r k : Nat} (h2 : n ≤ 12) (hk : k ≤ n) : f_X13_faulted (nI r) (nI n) (nI k) = some (nI (rO n r k)) := by rw [f_X13_faulted, pk_sub hk, x13_all (by omega), bd_s, nI_xor, rO]
theorem nI_m1 {n : Nat} (h1 : 1 ≤ n) : nI n - (1 : Int32) = nI (n - 1) := pk_sub h1
theorem q_slipEnergy {c : Nat} {L R V : Nat → Int32} (h : SV c L R V) (p w t a b d e1' e2' e3' : Int32) : ∃ x y : Int32, y ≠ 4 ∧ f_X11_slipEnergy p w t (nI c) e1' e2' e3' L R = some (x, y) ∧ f_X13_slipEnergy p w a b d e1' e2' (nI c) e3' V = some (x, 0, y, -1) := by
  rcases q_sv h p with ⟨s, n, r, hs, hs5, h1, h2, hr, -, -, -, e1, e2, e3, e4, e5, e6⟩ | ⟨e1, e2⟩
  · have h1' : 1 ≤ n := by omega
    rcases q_in 0 (n - 1) 0 (nI n - 1) (nI n) rfl (nI_m1 h1') (by rw [Nat.sub_add_cancel h1']) (by omega) (by omega) w with ⟨k, -, hk, rfl, g1, -, -, g2, -, e7⟩ | ⟨g, e7⟩
    · refine ⟨eE n (rF n r k) e1' e2' e3', 0, by decide, ?_, ?_⟩
      · have z : nI r ^^^ nI (2 ^ (n - 1 - k)) = nI (rF n r k) := nI_xor _ _
        simp only [f_X11_slipEnergy, e1, e3, e4, bd_s, if_true, if_false, g1, g2, x8_bit h2 (show k < n by omega), z, x4_energyOf h1' h2 (rF_lt h1' hr), f_X11_granted]
      · simp only [f_X13_slipEnergy, e2, e5, e6, e7, bd_s, i10, if_false, x13_slipped h2 (show k < n by omega), x13_energyOf h1' h2 (rF_lt h1' hr), f_X13_good]
    · refine ⟨-1000000, 2, by decide, ?_, ?_⟩
      · rcases g with g | ⟨g, -, -, g', -⟩
        · simp only [f_X11_slipEnergy, e1, e4, bd_s, if_true, g, f_X11_slipEnergy_34, f_X11_refused]
        · simp only [f_X11_slipEnergy, e1, e4, bd_s, if_true, g, g', if_false, f_X11_slipEnergy_34, f_X11_refused]
      · simp only [f_X13_slipEnergy, e2, e6, e7, bd_s, i10, if_false, if_true, f_X13_lost, f_X13_refused]
  · refine ⟨-1000000, 1, by decide, ?_, ?_⟩
    · simp only [f_X11_slipEnergy, e1, bd_s, i10, if_false, f_X11_refused]
    · simp only [f_X13_slipEnergy, e2, bd_s, if_true, f_X13_lost, f_X13_refused]
/-- the step whose slip leaves least energy, of the first k + 1 -/
def rWk (n r : Nat) (a b c : Int32) : Nat → Nat
  | 0 => 0
  | k + 1 => if eE n (rF n r (rWk n r a b c k)) a b c ≤ eE n (rF n r (k + 1)) a b c then rWk n r a b c k else k + 1
theorem rWk_le (n r : Nat) (a b c : Int32) : ∀ k, rWk n r a b c k ≤ k
  | 0 => Nat.le_refl _
  | k + 1 => by
    have h := rWk_le n r a b c k
    unfold rWk
    split <;> omega
theorem x4_weakest_5 {n r : Nat} {a b c : Int32} (h1 : 1 ≤ n) (h2 : n ≤ 12) (hr : r < 2 ^ n) : ∀ (f k : Nat), k < n → n - k ≤ f →
    f_X4_weakestStep_5 f (nI r) (nI n) (nI (rWk n r a b c k)) (nI (k + 1)) a b c = some (nI (rWk n r a b c (n - 1)))
  | 0, _, h, h' => by omega
  | f + 1, k, hk, hf => by
    have l := rWk_le n r a b c k
    rw [f_X4_weakestStep_5]
    by_cases q : n ≤ k + 1
    · rw [if_pos ((nI_leI (by omega) (by omega)).mpr q), show k = n - 1 by omega]
    · rw [if_neg (fun z => q ((nI_leI (by omega) (by omega)).mp z)), x8_bit h2 (by omega), bd_s, nI_xor, ← rF, x4_energyOf h1 h2 (rF_lt h1 hr), bd_s, x8_bit h2 (by omega), bd_s, nI_xor, ← rF, x4_energyOf h1 h2 (rF_lt h1 hr), bd_s]
      have IH := x4_weakest_5 (a := a) (b := b) (c := c) h1 h2 hr f (k + 1) (by omega) (by omega)
      by_cases e : eE n (rF n r (rWk n r a b c k)) a b c ≤ eE n (rF n r (k + 1)) a b c
      · rw [if_pos e, f_X4_weakestStep_42, nI_1]
        rw [rWk, if_pos e] at IH; exact IH
      · rw [if_neg e, f_X4_weakestStep_42, nI_1]
        rw [rWk, if_neg e] at IH; exact IH
theorem x4_weakest {n r : Nat} {a b c : Int32} (h1 : 1 ≤ n) (h2 : n ≤ 12) (hr : r < 2 ^ n) : f_X4_weakestStep (nI r) (nI n) a b c = some (nI (rWk n r a b c (n - 1))) :=
  x4_weakest_5 h1 h2 hr kFU 0 h1 (by unfold kFU; omega)
theorem x13_weakest_5 {n r : Nat} {a b c : Int32} (h1 : 1 ≤ n) (h2 : n ≤ 12) (hr : r < 2 ^ n) : ∀ (f k : Nat), k < n → n - k ≤ f →
    f_X13_weakestOf_5 f (nI r) (nI n) (nI (rWk n r a b c k)) (nI (k + 1)) a b c = some (nI (rWk n r a b c (n - 1)))
  | 0, _, h, h' => by omega
  | f + 1, k, hk, hf => by
    have l := rWk_le n r a b c k
    rw [f_X13_weakestOf_5]
    by_cases q : n ≤ k + 1
    · rw [if_pos ((nI_leI (by omega) (by omega)).mpr q), show k = n - 1 by omega]
    · rw [if_neg (fun z => q ((nI_leI (by omega) (by omega)).mp z)), x13_slipped h2 (by omega), bd_s, x13_energyOf h1 h2 (rF_lt h1 hr), bd_s, x13_slipped h2 (by omega), bd_s, x13_energyOf h1 h2 (rF_lt h1 hr), bd_s]
      have IH := x13_weakest_5 (a := a) (b := b) (c := c) h1 h2 hr f (k + 1) (by omega) (by omega)
      by_cases e : eE n (rF n r (rWk n r a b c k)) a b c ≤ eE n (rF n r (k + 1)) a b c
      · rw [if_pos e, f_X13_weakestOf_40, nI_1]
        rw [rWk, if_pos e] at IH; exact IH
      · rw [if_neg e, f_X13_weakestOf_40, nI_1]
        rw [rWk, if_neg e] at IH; exact IH
theorem x13_weakest {n r : Nat} {a b c : Int32} (h1 : 1 ≤ n) (h2 : n ≤ 12) (hr : r < 2 ^ n) : f_X13_weakestOf (nI r) (nI n) a b c = some (nI (rWk n r a b c (n - 1))) :=
  x13_weakest_5 h1 h2 hr kFU 0 h1 (by unfold kFU; omega)
theorem q_weakest {c : Nat} {L R V : Nat → Int32} (h : SV c L R V) (p t a b d e1' e2' e3' : Int32) : ∃ x y : Int32, y ≠ 4 ∧ f_X11_weakest p t (nI c) e1' e2' e3' L R = some (x, y) ∧ f_X13_weakest p a b d e1' e2' (nI c) e3' V = some (x, 0, y, -1) := by
  rcases q_sv h p with ⟨s, n, r, hs, hs5, h1, h2, hr, -, -, -, e1, e2, e3, e4, e5, e6⟩ | ⟨e1, e2⟩
  · have h1' : 1 ≤ n := by omega
    refine ⟨nI (rWk n r e1' e2' e3' (n - 1)), 0, by decide, ?_, ?_⟩
    · simp only [f_X11_weakest, e1, e3, e4, bd_s, if_true, x4_weakest h1' h2 hr, f_X11_granted]
    · simp only [f_X13_weakest, e2, e5, e6, bd_s, i10, if_false, x13_weakest h1' h2 hr, f_X13_good]
  · refine ⟨-1, 1, by decide, ?_, ?_⟩
    · simp only [f_X11_weakest, e1, bd_s, i10, if_false, f_X11_refused]
    · simp only [f_X13_weakest, e2, bd_s, if_true, f_X13_refused]
theorem q_faultEnergy {c : Nat} {L R V : Nat → Int32} (h : SV c L R V) (p w t a b d e1' e2' e3' : Int32) : ∃ x y : Int32, y ≠ 4 ∧ f_X11_faultEnergy p w t (nI c) e1' e2' e3' L R = some (x, y) ∧ f_X13_faultEnergy p w a b d e1' e2' (nI c) e3' V = some (x, 0, y, -1) := by
  rcases q_sv h p with ⟨s, n, r, hs, hs5, h1, h2, hr, -, -, -, e1, e2, e3, e4, e5, e6⟩ | ⟨e1, e2⟩
  · have h1' : 1 ≤ n := by omega
    rcases q_in 1 (n - 1) 1 (nI n - 1) (nI n) rfl (nI_m1 h1') (by rw [Nat.sub_add_cancel h1']) (by omega) (by omega) w with ⟨k, -, hk, rfl, g1, -, -, g2, -, e7⟩ | ⟨g, e7⟩
    · refine ⟨eE n (rO n r k) e1' e2' e3', 0, by decide, ?_, ?_⟩
      · simp only [f_X11_faultEnergy, e1, e3, e4, bd_s, if_true, if_false, g1, g2, x8_otherFrom h2 (show k ≤ n by omega), x4_energyOf h1' h2 (rO_lt hr), f_X11_granted]
      · simp only [f_X13_faultEnergy, e2, e5, e6, e7, bd_s, i10, if_false, x13_faulted h2 (show k ≤ n by omega), x13_energyOf h1' h2 (rO_lt hr), f_X13_good]
    · refine ⟨-1000000, 2, by decide, ?_, ?_⟩
      · rcases g with g | ⟨g, -, -, g', -⟩
        · simp only [f_X11_faultEnergy, e1, e4, bd_s, if_true, g, f_X11_faultEnergy_35, f_X11_refused]
        · simp only [f_X11_faultEnergy, e1, e4, bd_s, if_true, g, g', if_false, f_X11_faultEnergy_35, f_X11_refused]
      · simp only [f_X13_faultEnergy, e2, e6, e7, bd_s, i10, if_false, if_true, f_X13_lost, f_X13_refused]
  · refine ⟨-1000000, 1, by decide, ?_, ?_⟩
    · simp only [f_X11_faultEnergy, e1, bd_s, i10, if_false, f_X11_refused]
    · simp only [f_X13_faultEnergy, e2, bd_s, if_true, f_X13_lost, f_X13_refused]
theorem q_bF {n r : Nat} {L R V : Nat → Int32} {p : Int32} (h1 : 1 ≤ n) (h2 : n ≤ 12) (hr : r < 2 ^ n) (e5 : f_X13_row p V = some (nI r)) (t a b d e1' e2' e3' C : Int32) : ∀ (f g k j : Nat), k ≤ n → j ≤ n → n - k < f → n - k < g →
    ∃ x : Int32, f_X11_bestFault_55 f (nI r) (nI n) (nI j) (eE n (rO n r j) e1' e2' e3') (nI k) t C e1' e2' e3' L R = some (x, 0) ∧ f_X13_bestFault_30 g p (nI n) (nI j) (nI k) a b d e1' e2' C e3' V = some (x, a, 0, -1)
  | 0, _, _, _, _, _, hf, _ => absurd hf (Nat.not_lt_zero _)
  | _ + 1, 0, _, _, _, _, _, hg => absurd hg (Nat.not_lt_zero _)
  | f + 1, g + 1, k, j, hk, hj, hf, hg => by
    rw [f_X11_bestFault_55, f_X13_bestFault_30]
    by_cases q : n ≤ k
    · have z := (nI_leI (a := n) (b := k) (by omega) (by omega)).mpr q
      rw [if_pos z, if_pos z]
      exact ⟨nI j, rfl, rfl⟩
    · have z : ¬ nI n ≤ nI k := fun z => q ((nI_leI (by omega) (by omega)).mp z)
      rw [if_neg z, if_neg z]
      simp only [e5, bd_s, x8_otherFrom h2 hk, x13_faulted h2 hk, x13_faulted h2 hj, x4_energyOf h1 h2 (rO_lt hr), x13_energyOf h1 h2 (rO_lt hr)]
      by_cases e : (eE n (rO n r j) e1' e2' e3') ≤ (eE n (rO n r k) e1' e2' e3')
      · rw [if_pos e, if_pos e]
        have IH := q_bF (L := L) (R := R) h1 h2 hr e5 t a b d e1' e2' e3' C f g (k + 1) j (by omega) hj (by omega) (by omega)
        rw [f_X11_bestFault_93, f_X13_bestFault_73, nI_1]; exact IH
      · rw [if_neg e, if_neg e]
        have IH := q_bF (L := L) (R := R) h1 h2 hr e5 t a b d e1' e2' e3' C f g (k + 1) k (by omega) hk (by omega) (by omega)
        rw [f_X11_bestFault_93, f_X13_bestFault_73, nI_1]; exact IH
theorem q_bestFault {c : Nat} {L R V : Nat → Int32} (h : SV c L R V) (p t a b d e1' e2' e3' : Int32) : ∃ x y : Int32, y ≠ 4 ∧ f_X11_bestFault p t (nI c) e1' e2' e3' L R = some (x, y) ∧ f_X13_bestFault p a b d e1' e2' (nI c) e3' V = some (x, 0, y, -1) := by
  rcases q_sv h p with ⟨s, n, r, hs, hs5, h1, h2, hr, -, -, -, e1, e2, e3, e4, e5, e6⟩ | ⟨e1, e2⟩
  · have h1' : 1 ≤ n := by omega
    obtain ⟨x, r1, r2⟩ := q_bF (L := L) (R := R) h1' h2 hr e5 t 0 b d e1' e2' e3' (nI c) kFU kFU 2 1 h1 h1' (by unfold kFU; omega) (by unfold kFU; omega)
    refine ⟨x, 0, by decide, ?_, ?_⟩
    · simp only [f_X11_bestFault, e1, e3, e4, bd_s, if_true, show (1 : Int32) = nI 1 from rfl, show (2 : Int32) = nI 2 from rfl, x8_otherFrom h2 h1', x4_energyOf h1' h2 (rO_lt hr)]
      exact r1
    · simp only [f_X13_bestFault, e2, e5, e6, bd_s, i10, if_false]
      exact r2
  · refine ⟨-1, 1, by decide, ?_, ?_⟩
    · simp only [f_X11_bestFault, e1, bd_s, i10, if_false, f_X11_refused]
    · simp only [f_X13_bestFault, e2, bd_s, if_true, f_X13_refused]
/-! WHERE TWO STACKS DIFFER -/
theorem q_dif {s1 s2 c n1 r1 n2 r2 : Nat} {L R V : Nat → Int32} (a1 : 1 ≤ n1) (a2 : n1 ≤ 12) (ar : r1 < 2 ^ n1) (b1 : 1 ≤ n2) (b2 : n2 ≤ 12) (br : r2 < 2 ^ n2) (p q : Int32) (e1 : f_X9_steps p L = some (nI n1)) (e2 : f_X9_steps q L = some (nI n2)) (e3 : f_X13_row p V = some (nI r1)) (e4 : f_X13_steps p V = some (nI n1)) (e5 : f_X13_row q V = some (nI r2)) (e6 : f_X13_steps q V = some (nI n2)) (t C a b d X Y : Int32) : ∀ (f g m : Nat) (u : Nat → Int32), 1 ≤ m → m ≤ 37 → 37 - m < f → 37 - m < g →
    ∃ (x : Int32) (u' : Nat → Int32), f_X11_differs_74 f p q (nI r1) (nI r2) X Y (nI m) t C L R = some (x, 0) ∧ f_X13_differs_59 g p q X Y (nI m) a b d C u V = some (x, a, 0, -1, u')
  | 0, _, _, _, _, _, hf, _ => absurd hf (Nat.not_lt_zero _)
  | _ + 1, 0, _, _, _, _, _, hg => absurd hg (Nat.not_lt_zero _)
  | f + 1, g + 1, m, u, h1, hm, hf, hg => by
    rw [f_X11_differs_74, f_X13_differs_59]
    by_cases z0 : 36 < m
    · have z : (36 : Int32) < nI m := (nI_ltI (a := 36) (by omega) (by omega)).mpr z0
      rw [if_pos z, if_pos z]
      exact ⟨-2, u, rfl, rfl⟩
    · have z : ¬ (36 : Int32) < nI m := fun z => z0 ((nI_ltI (a := 36) (by omega) (by omega)).mp z)
      rw [if_neg z, if_neg z]
      obtain ⟨u1, k1⟩ := x13_agreeOf a1 a2 ar (show m ≤ 36 by omega) u
      obtain ⟨u2, k2⟩ := x13_agreeOf b1 b2 br (show m ≤ 36 by omega) u1
      simp only [e1, e2, e3, e4, e5, e6, bd_s, k1, k2, x8_layersAlike a1 a2 ar (show m ≤ 36 by omega), x8_layersAlike b1 b2 br (show m ≤ 36 by omega)]
      by_cases e : (nI (rAg n1 r1 m (rRep n1 r1)) * Y) = (nI (rAg n2 r2 m (rRep n2 r2)) * X)
      · rw [if_pos e, if_pos e, nI_1]
        exact q_dif (s1 := s1) (s2 := s2) (c := c) a1 a2 ar b1 b2 br p q e1 e2 e3 e4 e5 e6 t C a b d X Y f g (m + 1) u2 (by omega) (by omega) (by omega) (by omega)
      · rw [if_neg e, if_neg e]
        exact ⟨nI m, u2, rfl, rfl⟩
theorem q_differs {c : Nat} {L R V : Nat → Int32} (h : SV c L R V) (p q t a b d : Int32) (u : Nat → Int32) : ∃ (x y : Int32) (u' : Nat → Int32), y ≠ 4 ∧ f_X11_differs p q t (nI c) L R = some (x, y) ∧ f_X13_differs p q a b d (nI c) u V = some (x, 0, y, -1, u') := by
  rcases q_sv h p with ⟨s, n, r, hs, hs5, h1, h2, hr, -, -, -, e1, e2, e3, e4, e5, e6⟩ | ⟨e1, e2⟩
  · rcases q_sv h q with ⟨s', n', r', hs', hs5', h1', h2', hr', -, -, -, k1, k2, k3, k4, k5, k6⟩ | ⟨k1, k2⟩
    · obtain ⟨x, u', r1, r2⟩ := q_dif (s1 := 0) (s2 := 0) (c := 0) (L := L) (R := R) (V := V) (show 1 ≤ n by omega) h2 hr (show 1 ≤ n' by omega) h2' hr' p q e4 k4 e5 e6 k5 k6 t (nI c) 0 b d (nI (rRep n r)) (nI (rRep n' r')) kFU kFU 1 u (by omega) (by omega) (by unfold kFU; omega) (by unfold kFU; omega)
      refine ⟨x, 0, u', by decide, ?_, ?_⟩
      · simp only [f_X11_differs, e1, e3, e4, k1, k3, k4, bd_s, if_true, x8_repeats (show 1 ≤ n by omega) h2 hr, x8_repeats (show 1 ≤ n' by omega) h2' hr']
        exact r1
      · simp only [f_X13_differs, e2, e5, e6, k2, k5, k6, bd_s, i10, if_false, x13_repeats (show 1 ≤ n by omega) h2 hr, x13_repeats (show 1 ≤ n' by omega) h2' hr']
        exact r2
    · refine ⟨-1, 1, u, by decide, ?_, ?_⟩
      · simp only [f_X11_differs, e1, k1, bd_s, i10, if_true, if_false, f_X11_differs_16, f_X11_refused]
      · simp only [f_X13_differs, e2, k2, bd_s, i10, if_true, if_false, f_X13_differs_21, f_X13_refused]
  · refine ⟨-1, 1, u, by decide, ?_, ?_⟩
    · simp only [f_X11_differs, e1, bd_s, i10, if_false, f_X11_differs_16, f_X11_refused]
    · simp only [f_X13_differs, e2, bd_s, if_true, f_X13_differs_21, f_X13_refused]
