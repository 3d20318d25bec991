/-! ENERGIES, ONE BY ONE -/
def rM (n r d : Nat) : Nat → Nat
  | 0 => 0
  | k + 1 => rM n r d k + (if rS n r k = rS n r (k + d) then 0 else 1)
theorem rM_P1 {n r : Nat} (h1 : 1 ≤ n) (h2 : n ≤ 12) (hr : r < 2 ^ n) : rM n r 1 n = rP (Nat.xor r (rTi n r 1)) := of_decide_eq_true (allR_at (p := fun n r => decide (rM n r 1 n = rP (Nat.xor r (rTi n r 1)))) (by decide +kernel) h1 h2 hr)
theorem rM_P2 {n r : Nat} (h1 : 1 ≤ n) (h2 : n ≤ 12) (hr : r < 2 ^ n) : rM n r 2 n = rP (Nat.xor r (rTi n r 2)) := of_decide_eq_true (allR_at (p := fun n r => decide (rM n r 2 n = rP (Nat.xor r (rTi n r 2)))) (by decide +kernel) h1 h2 hr)
theorem rM_P3 {n r : Nat} (h1 : 1 ≤ n) (h2 : n ≤ 12) (hr : r < 2 ^ n) : rM n r 3 n = rP (Nat.xor r (rTi n r 3)) := of_decide_eq_true (allR_at (p := fun n r => decide (rM n r 3 n = rP (Nat.xor r (rTi n r 3)))) (by decide +kernel) h1 h2 hr)
theorem rM_P {n r d : Nat} (h1 : 1 ≤ n) (h2 : n ≤ 12) (hr : r < 2 ^ n) (hd : 1 ≤ d ∧ d < 4) : rM n r d n = rP (Nat.xor r (rTi n r d)) := by
  rcases (by omega : d = 1 ∨ d = 2 ∨ d = 3) with rfl | rfl | rfl
  · exact rM_P1 h1 h2 hr
  · exact rM_P2 h1 h2 hr
  · exact rM_P3 h1 h2 hr
def eE (n r : Nat) (a b c : Int32) : Int32 := ((-a) * (nI n - (2 : Int32) * nI (rM n r 1 n)) - b * (nI n - (2 : Int32) * nI (rM n r 2 n))) - c * (nI n - (2 : Int32) * nI (rM n r 3 n))
theorem nI_xor (a b : Nat) : nI a ^^^ nI b = nI (Nat.xor a b) := Int32.toBitVec_inj.mp (by
  show BitVec.ofNat 32 a ^^^ BitVec.ofNat 32 b = BitVec.ofNat 32 (a ^^^ b)
  exact BitVec.ofNat_xor.symm)
theorem rx_lt {n a b : Nat} (ha : a < 2 ^ n) (hb : b < 2 ^ n) : Nat.xor a b < 2 ^ n := Nat.xor_lt_two_pow ha hb
theorem x4_products {n r d : Nat} (h1 : 1 ≤ n) (h2 : n ≤ 12) (hr : r < 2 ^ n) (hd : 1 ≤ d ∧ d < 4) : f_X4_products (nI r) (nI (rTi n r d)) (nI n) = some (nI n - (2 : Int32) * nI (rM n r d n)) := by
  rw [f_X4_products, nI_xor, j6_bitCount (r4096 h2 (rx_lt hr (rTi_lt h1 h2 hr d))), bd_s, rM_P h1 h2 hr hd]
theorem x4_energyOf {n r : Nat} {a b c : Int32} (h1 : 1 ≤ n) (h2 : n ≤ 12) (hr : r < 2 ^ n) : f_X4_energyOf (nI r) (nI n) a b c = some (eE n r a b c) := by
  rw [f_X4_energyOf, x8_turned h1 h2 hr, bd_s, show rT n r = rTi n r 1 from rfl, x8_turned h1 h2 (rTi_lt h1 h2 hr 1), bd_s, show rT n (rTi n r 1) = rTi n r 2 from rfl, x8_turned h1 h2 (rTi_lt h1 h2 hr 2), bd_s, show rT n (rTi n r 2) = rTi n r 3 from rfl,
    x4_products h1 h2 hr (by decide), bd_s, x4_products h1 h2 hr (by decide), bd_s, x4_products h1 h2 hr (by decide), bd_s, eE]
theorem rSv_mul {a b : Nat} (ha : a < 2) (hb : b < 2) : rSv a * rSv b = (1 : Int32) - (2 : Int32) * nI (if a = b then 0 else 1) := by
  rcases (by omega : a = 0 ∨ a = 1) with rfl | rfl <;> rcases (by omega : b = 0 ∨ b = 1) with rfl | rfl <;> decide
def eK (n r : Nat) (a b c : Int32) (k : Nat) : Int32 := ((-a) * (nI k - (2 : Int32) * nI (rM n r 1 k)) - b * (nI k - (2 : Int32) * nI (rM n r 2 k))) - c * (nI k - (2 : Int32) * nI (rM n r 3 k))
theorem eK_r1 (a b c t u1 u2 u3 : Int32) : t * ((a * u1 + b * u2) + c * u3) = a * (t * u1) + b * (t * u2) + c * (t * u3) := by
  grobner
theorem eK_r2 (a b c K M1 M2 M3 e1 e2 e3 : Int32) : (((-a) * (K - 2 * M1) - b * (K - 2 * M2)) - c * (K - 2 * M3)) - (a * (1 - 2 * e1) + b * (1 - 2 * e2) + c * (1 - 2 * e3)) = (((-a) * ((K + 1) - 2 * (M1 + e1)) - b * ((K + 1) - 2 * (M2 + e2))) - c * ((K + 1) - 2 * (M3 + e3))) := by
  grobner
theorem eK_ring (a b c K M1 M2 M3 t u1 u2 u3 e1 e2 e3 : Int32) (g1 : t * u1 = 1 - 2 * e1) (g2 : t * u2 = 1 - 2 * e2) (g3 : t * u3 = 1 - 2 * e3) :
    (((-a) * (K - 2 * M1) - b * (K - 2 * M2)) - c * (K - 2 * M3)) - t * ((a * u1 + b * u2) + c * u3) = (((-a) * ((K + 1) - 2 * (M1 + e1)) - b * ((K + 1) - 2 * (M2 + e2))) - c * ((K + 1) - 2 * (M3 + e3))) := by
  rw [eK_r1, g1, g2, g3]
  exact eK_r2 a b c K M1 M2 M3 e1 e2 e3
theorem eK_succ (n r : Nat) (a b c : Int32) (k : Nat) : eK n r a b c k - (rSv (rS n r k) * (((a * rSv (rS n r (k + 1))) + (b * rSv (rS n r (k + 2)))) + (c * rSv (rS n r (k + 3))))) = eK n r a b c (k + 1) := by
  have hb := rS_lt n r
  have r1 : nI (rM n r 1 (k + 1)) = nI (rM n r 1 k) + nI (if rS n r k = rS n r (k + 1) then 0 else 1) := (nI_add _ _).symm
  have r2 : nI (rM n r 2 (k + 1)) = nI (rM n r 2 k) + nI (if rS n r k = rS n r (k + 2) then 0 else 1) := (nI_add _ _).symm
  have r3 : nI (rM n r 3 (k + 1)) = nI (rM n r 3 k) + nI (if rS n r k = rS n r (k + 3) then 0 else 1) := (nI_add _ _).symm
  rw [eK, eK, r1, r2, r3, ← nI_1]
  exact eK_ring a b c (nI k) _ _ _ _ _ _ _ _ _ _ (rSv_mul (hb k) (hb (k + 1))) (rSv_mul (hb k) (hb (k + 2))) (rSv_mul (hb k) (hb (k + 3)))
theorem eK_0 (n r : Nat) (a b c : Int32) : eK n r a b c 0 = 0 := by
  show ((-a) * (nI 0 - (2 : Int32) * nI 0) - b * (nI 0 - (2 : Int32) * nI 0)) - c * (nI 0 - (2 : Int32) * nI 0) = 0
  rw [show nI 0 - (2 : Int32) * nI 0 = 0 by decide]
  grobner
/-! SLIPS AND FAULTS -/
def rF (n r k : Nat) : Nat := Nat.xor r (2 ^ (n - 1 - k))
def rO (n r k : Nat) : Nat := Nat.xor r (2 ^ (n - k) - 1)
theorem rF_lt {n r k : Nat} (h1 : 1 ≤ n) (hr : r < 2 ^ n) : rF n r k < 2 ^ n := rx_lt hr (Nat.pow_lt_pow_right (by decide) (by omega))
theorem rO_lt {n r k : Nat} (hr : r < 2 ^ n) : rO n r k < 2 ^ n := rx_lt hr (by
  have := Nat.pow_le_pow_right (n := 2) (by decide) (show n - k ≤ n by omega)
  have := Nat.two_pow_pos (n - k)
  omega)
theorem rf_bit {n k : Nat} (h2 : n ≤ 12) (hk : k < n) : (1 : Int32) <<< (((nI n - (1 : Int32)) - nI k) &&& 31) = nI (2 ^ (n - 1 - k)) := by
  have := Nat.pow_le_pow_right (n := 2) (by decide) (show n - 1 - k ≤ 12 by omega)
  have e := pk_shlN (n := 1) _ _ (rw_sh h2 hk) (by omega)
  rw [Nat.one_mul] at e
  exact e
theorem x8_bit {n k : Nat} (h2 : n ≤ 12) (hk : k < n) : f_X8_bit (nI n) (nI k) = some (nI (2 ^ (n - 1 - k))) := by rw [f_X8_bit, rf_bit h2 hk]
theorem x8_all {n : Nat} (h2 : n ≤ 12) : f_X8_all (nI n) = some (nI (2 ^ n - 1)) := of_decide_eq_true (allB_at (N := 13) (p := fun n => decide (f_X8_all (nI n) = some (nI (2 ^ n - 1)))) (by decide +kernel) n (by omega))
theorem x8_otherFrom {n r k : Nat} (h2 : n ≤ 12) (hk : k ≤ n) : f_X8_otherFrom (nI r) (nI n) (nI k) = some (nI (rO n r k)) := by rw [f_X8_otherFrom, pk_sub hk, x8_all (by omega), bd_s, nI_xor, rO]
theorem nI_m1 {n : Nat} (h1 : 1 ≤ n) : nI n - (1 : Int32) = nI (n - 1) := pk_sub h1
def rWk (n r : Nat) (a b c : Int32) : Nat → Nat
  | 0 => 0
  | k + 1 => if eE n (rF n r (rWk n r a b c k)) a b c ≤ eE n (rF n r (k + 1)) a b c then rWk n r a b c k else k + 1
theorem rWk_le (n r : Nat) (a b c : Int32) : ∀ k, rWk n r a b c k ≤ k
  | 0 => Nat.le_refl _
  | k + 1 => by
    have h := rWk_le n r a b c k
    unfold rWk
    split <;> omega
theorem x4_weakest_5 {n r : Nat} {a b c : Int32} (h1 : 1 ≤ n) (h2 : n ≤ 12) (hr : r < 2 ^ n) : ∀ (f k : Nat), k < n → n - k ≤ f →
    f_X4_weakestStep_5 f (nI r) (nI n) (nI (rWk n r a b c k)) (nI (k + 1)) a b c = some (nI (rWk n r a b c (n - 1)))
  | 0, _, h, h' => by omega
  | f + 1, k, hk, hf => by
    have l := rWk_le n r a b c k
    rw [f_X4_weakestStep_5]
    by_cases q : n ≤ k + 1
    · rw [if_pos ((nI_leI (by omega) (by omega)).mpr q), show k = n - 1 by omega]
    · rw [if_neg (fun z => q ((nI_leI (by omega) (by omega)).mp z)), x8_bit h2 (by omega), bd_s, nI_xor, ← rF, x4_energyOf h1 h2 (rF_lt h1 hr), bd_s, x8_bit h2 (by omega), bd_s, nI_xor, ← rF, x4_energyOf h1 h2 (rF_lt h1 hr), bd_s]
      have IH := x4_weakest_5 (a := a) (b := b) (c := c) h1 h2 hr f (k + 1) (by omega) (by omega)
      by_cases e : eE n (rF n r (rWk n r a b c k)) a b c ≤ eE n (rF n r (k + 1)) a b c
      · rw [if_pos e, f_X4_weakestStep_42, nI_1]
        rw [rWk, if_pos e] at IH; exact IH
      · rw [if_neg e, f_X4_weakestStep_42, nI_1]
        rw [rWk, if_neg e] at IH; exact IH
theorem x4_weakest {n r : Nat} {a b c : Int32} (h1 : 1 ≤ n) (h2 : n ≤ 12) (hr : r < 2 ^ n) : f_X4_weakestStep (nI r) (nI n) a b c = some (nI (rWk n r a b c (n - 1))) :=
  x4_weakest_5 h1 h2 hr kFU 0 h1 (by unfold kFU; omega)
/-! WHERE TWO STACKS DIFFER -/
