/-! ONE STACK OF BOTH PROGRAMS, AND THE FIRST CALLS OF A STACK -/
def SV (c : Nat) (L R V : Nat → Int32) : Prop := c ≤ 5 ∧ ∀ s, s < c → ∃ n r : Nat, 2 ≤ n ∧ n ≤ 12 ∧ r < 2 ^ n ∧ L s = nI n ∧ R s = nI r ∧ V s = nI n ∧ V (5 + s) = nI r
theorem bd_s {α β : Type} (a : α) (k : α → Option β) : bd (some a) k = k a := congrArg (fun x => x) (bd_some a k)
theorem lt_q {α β : Type} (e : α) (k : α → Option β) : lt e k = k e := congrArg (fun x => x) (lt_eq e k)
theorem i10 : ((1 : Int32) = 0) = False := by decide
theorem i00 : ((0 : Int32) = 0) = True := by decide
theorem x11_at {N i : Nat} {w : Nat → Int32} (hN : N < 2 ^ 31) (h : i < N) : f_X11_at N (nI i) w = some (w i) := by
  rw [f_X11_at, if_neg (nI_pos (by omega)), if_neg (show ¬ Int32.ofNat N ≤ nI i from nI_ge h hN), gd_t _ (nI_in h hN), nI_clamp (by omega)]
theorem x11_set {N i : Nat} {w : Nat → Int32} {v : Int32} (hN : N < 2 ^ 31) (h : i < N) : f_X11_set N (nI i) v w = some (upd w i v) := by
  rw [f_X11_set, if_neg (nI_pos (by omega)), if_neg (show ¬ Int32.ofNat N ≤ nI i from nI_ge h hN), gd_t _ (nI_in h hN), nI_clamp (by omega)]; rfl
theorem x9_row {s : Nat} {w : Nat → Int32} (h : s < 5) : f_X9_row (nI s) w = some (w s) := by rw [f_X9_row, x11_at (by omega) h, bd_s]
theorem x9_steps {s : Nat} {w : Nat → Int32} (h : s < 5) : f_X9_steps (nI s) w = some (w s) := by rw [f_X9_steps, x11_at (by omega) h, bd_s]
theorem x8_total {n r : Nat} (h2 : n ≤ 12) (hr : r < 2 ^ n) : f_X8_total (nI r) (nI n) = some ((2 : Int32) * nI (rP r) - nI n) := by rw [f_X8_total, j6_bitCount (r4096 h2 hr), bd_s]
theorem rH_le (n r : Nat) : rH n r ≤ 12 := rPc_le 12 _
theorem x8_runs {n r : Nat} (h1 : 1 ≤ n) (h2 : n ≤ 12) (hr : r < 2 ^ n) : f_X8_runs (nI r) (nI n) = some (nI (if rH n r = 0 then 1 else rH n r)) := by
  have l := rH_le n r
  rw [f_X8_runs, x8_hexes h1 h2 hr, bd_s]
  by_cases q : 1 < rH n r
  · rw [if_pos (show (1 : Int32) < nI (rH n r) from (nI_ltI (a := 1) (by omega) (by omega)).mpr q), if_neg (by omega)]
  · rw [if_neg (show ¬ (1 : Int32) < nI (rH n r) from fun z => q ((nI_ltI (a := 1) (by omega) (by omega)).mp z))]
    by_cases q0 : rH n r = 0
    · rw [if_pos q0]; rfl
    · rw [if_neg q0, show rH n r = 1 by omega]; rfl
/-! LETTERS, LAYERS ALIKE -/
theorem rRep_le {n r : Nat} (h2 : n ≤ 12) : rRep n r ≤ 36 := by unfold rRep; split <;> omega
theorem rRep_pos {n r : Nat} (h1 : 1 ≤ n) : 1 ≤ rRep n r := by unfold rRep; split <;> omega
theorem rS_rep (n r k : Nat) : rS n r (k + rRep n r) = rS n r k := by
  unfold rRep
  split
  · exact rS_per n r k
  · rw [show k + 3 * n = k + n + n + n by omega, rS_per, rS_per, rS_per]
theorem rLt_R {n r : Nat} (h1 : 1 ≤ n) (h2 : n ≤ 12) (hr : r < 2 ^ n) : rLt n r (rRep n r) = 0 := of_decide_eq_true (allR_at (p := fun n r => decide (rLt n r (rRep n r) = 0)) (by decide +kernel) h1 h2 hr)
theorem rLt_per {n r : Nat} (h1 : 1 ≤ n) (h2 : n ≤ 12) (hr : r < 2 ^ n) : ∀ k, rLt n r (k + rRep n r) = rLt n r k
  | 0 => by rw [Nat.zero_add, rLt_R h1 h2 hr]; rfl
  | k + 1 => by
    rw [show k + 1 + rRep n r = (k + rRep n r) + 1 by omega]
    show (rLt n r (k + rRep n r) + (if rS n r (k + rRep n r) = 0 then 2 else 1)) % 3 = (rLt n r k + (if rS n r k = 0 then 2 else 1)) % 3
    rw [rLt_per h1 h2 hr k, rS_rep]
theorem rLt_mod {n r : Nat} (h1 : 1 ≤ n) (h2 : n ≤ 12) (hr : r < 2 ^ n) : ∀ (q k : Nat), rLt n r (k + rRep n r * q) = rLt n r k
  | 0, k => by rw [Nat.mul_zero, Nat.add_zero]
  | q + 1, k => by rw [Nat.mul_succ, ← Nat.add_assoc, rLt_per h1 h2 hr, rLt_mod h1 h2 hr q k]
theorem rLt_rem {n r k : Nat} (h1 : 1 ≤ n) (h2 : n ≤ 12) (hr : r < 2 ^ n) : rLt n r (k % rRep n r) = rLt n r k := by
  have h := rLt_mod h1 h2 hr (k / rRep n r) (k % rRep n r)
  rw [Nat.mod_add_div] at h
  exact h.symm
theorem rl_next {p b : Nat} (hp : p < 3) (hb : b < 2) : ((nI p + rSv b) + (3 : Int32)) - ((nI p + rSv b) + (3 : Int32)) / (3 : Int32) * (3 : Int32) = nI ((p + (if b = 0 then 2 else 1)) % 3) :=
  of_decide_eq_true (allB_at (allB_at (N := 3) (p := fun p => allB 2 (fun b => decide (((nI p + rSv b) + (3 : Int32)) - ((nI p + rSv b) + (3 : Int32)) / (3 : Int32) * (3 : Int32) = nI ((p + (if b = 0 then 2 else 1)) % 3)))) (by decide +kernel) p hp) b hb)
def rAg (n r m : Nat) : Nat → Nat
  | 0 => 0
  | k + 1 => rAg n r m k + (if rLt n r k = rLt n r (m + k) then 1 else 0)
theorem rAg_le (n r m : Nat) : ∀ k, rAg n r m k ≤ k
  | 0 => Nat.le_refl _
  | k + 1 => by
    have h := rAg_le n r m k
    show rAg n r m k + (if rLt n r k = rLt n r (m + k) then 1 else 0) ≤ k + 1
    split <;> omega
theorem rTi_add (n r m : Nat) : ∀ k, rT n (rTi n r (m + k)) = rTi n r (m + (k + 1))
  | _ => rfl
theorem x8_layersAlike_27 {n r m : Nat} (h1 : 1 ≤ n) (h2 : n ≤ 12) (hr : r < 2 ^ n) : ∀ (f k : Nat), k ≤ rRep n r → rRep n r - k < f →
    f_X8_layersAlike_27 f (nI r) (nI n) (nI (rAg n r m k)) (nI (rLt n r k)) (nI (rLt n r (m + k))) (nI (rTi n r k)) (nI (rTi n r (m + k))) (nI k) = some (nI (rAg n r m (rRep n r)))
  | 0, _, _, h => absurd h (Nat.not_lt_zero _)
  | f + 1, k, hk, hf => by
    have l := rRep_le (n := n) (r := r) h2
    have l3 := rLt_lt n r k
    have l4 := rLt_lt n r (m + k)
    rw [f_X8_layersAlike_27, x8_repeats h1 h2 hr, bd_s]
    by_cases q : rRep n r ≤ k
    · rw [if_pos ((nI_leI (by omega) (by omega)).mpr q), show rRep n r = k by omega]
    · have IH := x8_layersAlike_27 (m := m) h1 h2 hr f (k + 1) (by omega) (by omega)
      have s1 := x8_startsUp h1 h2 (rTi_lt h1 h2 hr k)
      have s2 := x8_startsUp h1 h2 (rTi_lt h1 h2 hr (m + k))
      rw [rTi_S h1 h2 hr k 0, Nat.zero_add] at s1
      rw [rTi_S h1 h2 hr (m + k) 0, Nat.zero_add] at s2
      have b1 := x8_letterBehind l3 (rS_lt n r k)
      have b2 := x8_letterBehind l4 (rS_lt n r (m + k))
      have t1 := x8_turned h1 h2 (rTi_lt h1 h2 hr k)
      have t2 := x8_turned h1 h2 (rTi_lt h1 h2 hr (m + k))
      rw [if_neg (fun z => q ((nI_leI (by omega) (by omega)).mp z))]
      by_cases e : rLt n r k = rLt n r (m + k)
      · have a : rAg n r m (k + 1) = rAg n r m k + 1 := by rw [rAg, if_pos e]
        rw [if_pos ((nI_eq (by omega) (by omega)).mpr e)]
        simp only [f_X8_layersAlike_50, lt_q, s1, s2, b1, b2, t1, t2, bd_s, nI_1]
        rw [← a]; exact IH
      · have a : rAg n r m (k + 1) = rAg n r m k := by rw [rAg, if_neg e, Nat.add_zero]
        rw [if_neg (fun z => e ((nI_eq (by omega) (by omega)).mp z))]
        simp only [f_X8_layersAlike_50, lt_q, s1, s2, b1, b2, t1, t2, bd_s, nI_1]
        rw [show nI (rAg n r m k) + (0 : Int32) = nI (rAg n r m k + 0) from nI_add _ 0, Nat.add_zero, ← a]; exact IH
theorem x8_layersAlike {n r m : Nat} (h1 : 1 ≤ n) (h2 : n ≤ 12) (hr : r < 2 ^ n) (hm : m ≤ 36) : f_X8_layersAlike (nI r) (nI n) (nI m) = some (nI (rAg n r m (rRep n r))) := by
  have l := rRep_le (n := n) (r := r) h2
  rw [f_X8_layersAlike, x8_letterAt h1 h2 hr (by omega), bd_s, x8_turnedBy h1 h2 hr (by omega), bd_s]
  exact x8_layersAlike_27 (m := m) h1 h2 hr kFU 0 (Nat.zero_le _) (by unfold kFU; omega)
/-! HEXAGONAL LAYERS, RUNS -/
theorem rv_b1 {x : Nat} (hx : x < 4096) : nI x &&& (1 : Int32) = nI (x % 2) := pk_andN (by omega) 1 rfl
theorem rS_last {n r : Nat} (h1 : 1 ≤ n) : r % 2 = rS n r (n - 1) := by
  unfold rS
  rw [Nat.mod_eq_of_lt (show n - 1 < n by omega), Nat.sub_self, Nat.pow_zero, Nat.div_one]
theorem x8_begins {n r k : Nat} (h1 : 1 ≤ n) (h2 : n ≤ 12) (hr : r < 2 ^ n) : f_X8_beginsRun (nI (rTi n r k)) (nI n) = some (nI (rX n r k)) := by
  have l := rTi_lt h1 h2 hr k
  have s1 := x8_startsUp h1 h2 l
  rw [rTi_S h1 h2 hr k 0, Nat.zero_add] at s1
  have s2 : rTi n r k % 2 = rS n r (k + n - 1) := by rw [rS_last h1, rTi_S h1 h2 hr k (n - 1)]; congr 1; omega
  rw [f_X8_beginsRun, s1, bd_s, rv_b1 (r4096 h2 l), s2]
  have l1 := rS_lt n r k
  have l2 := rS_lt n r (k + n - 1)
  unfold rX
  generalize rS n r k = A at *
  generalize rS n r (k + n - 1) = B at *
  rcases (by omega : A = 0 ∨ A = 1) with rfl | rfl <;> rcases (by omega : B = 0 ∨ B = 1) with rfl | rfl <;> decide
theorem rX_per {n r k : Nat} (h1 : 1 ≤ n) : rX n r (k + n) = rX n r k := by
  unfold rX
  rw [rS_per, show k + n + n - 1 = (k + n - 1) + n by omega, rS_per]
