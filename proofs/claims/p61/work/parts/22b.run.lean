/-! RUNS -/
theorem rX_eq0 {n r k : Nat} (h : rX n r k = 0) : rS n r k = rS n r (k + n - 1) := by
  unfold rX at h
  by_cases q : rS n r k = rS n r (k + n - 1)
  · exact q
  · rw [if_neg q] at h; cases h
theorem rX_eq1 {n r k : Nat} (h : rX n r k = 1) : rS n r k ≠ rS n r (k + n - 1) := by
  unfold rX at h
  by_cases q : rS n r k = rS n r (k + n - 1)
  · rw [if_pos q] at h; cases h
  · exact q
theorem rS_back {n r K j : Nat} (h1 : 1 ≤ n) : rS n r (K + (j + 1) + n - 1) = rS n r (K + j) := by
  rw [show K + (j + 1) + n - 1 = K + j + n by omega, rS_per]
theorem rS_run {n r K L : Nat} (h1 : 1 ≤ n) (h : ∀ j, 1 ≤ j → j < L → rX n r (K + j) = 0) : ∀ j, j < L → rS n r (K + j) = rS n r K
  | 0, _ => rfl
  | j + 1, hj => by
    have a := rX_eq0 (h (j + 1) (by omega) hj)
    rw [rS_back h1] at a
    rw [a, rS_run h1 h j (by omega)]
theorem rXc_mono (n r k : Nat) : ∀ d, rXc n r k ≤ rXc n r (k + d)
  | 0 => Nat.le_refl _
  | d + 1 => Nat.le_trans (rXc_mono n r k d) (Nat.le_add_right _ _)
theorem rXc_find {n r i : Nat} : ∀ m, i < rXc n r m → ∃ K, K < m ∧ rX n r K = 1 ∧ rXc n r K = i
  | 0, h => absurd h (Nat.not_lt_zero _)
  | m + 1, h => by
    by_cases q : i < rXc n r m
    · obtain ⟨K, a, b⟩ := rXc_find m q
      exact ⟨K, by omega, b⟩
    · have h' : i < rXc n r m + rX n r m := h
      have e := rX_01 n r m
      exact ⟨m, by omega, by omega, by omega⟩
theorem x8_steps_8 {n r K L : Nat} (h1 : 1 ≤ n) (h2 : n ≤ 12) (hr : r < 2 ^ n) (hL : L ≤ n) (h0 : ∀ j, 1 ≤ j → j < L → rX n r (K + j) = 0) (hx : rX n r (K + L) = 1) : ∀ (f j : Nat), 1 ≤ j → j ≤ L → L - j < f →
    f_X8_stepsLikeFirst_8 f (nI (rTi n r K)) (nI n) (nI (rS n r K)) (nI j) = some (nI L)
  | 0, _, _, _, h => absurd h (Nat.not_lt_zero _)
  | f + 1, j, hj, hjL, hf => by
    have l := rTi_lt h1 h2 hr K
    rw [f_X8_stepsLikeFirst_8]
    by_cases q : n ≤ j
    · rw [if_pos ((nI_leI (by omega) (by omega)).mpr q), show j = L by omega]
    · have b := rw_bit h2 l (show j < n by omega)
      rw [rTi_S h1 h2 hr K j, Nat.add_comm j K] at b
      have l1 := rS_lt n r K
      have l2 := rS_lt n r (K + j)
      rw [if_neg (fun z => q ((nI_leI (by omega) (by omega)).mp z)), b]
      by_cases e : j < L
      · have IH := x8_steps_8 h1 h2 hr hL h0 hx f (j + 1) (by omega) (by omega) (by omega)
        rw [rS_run h1 h0 j e]
        rcases (by omega : rS n r K = 0 ∨ rS n r K = 1) with z | z
        · rw [z] at IH ⊢
          rw [if_pos nI_0, f_X8_stepsLikeFirst_31, if_pos nI_0, nI_1]; exact IH
        · rw [z] at IH ⊢
          rw [if_neg (by decide), f_X8_stepsLikeFirst_31, if_pos (show nI 1 = (1 : Int32) from rfl), nI_1]; exact IH
      · have ej : j = L := by omega
        subst ej
        obtain ⟨i, rfl⟩ : ∃ i, j = i + 1 := ⟨j - 1, by omega⟩
        have a := rX_eq1 hx
        rw [rS_back h1, rS_run h1 h0 i (by omega)] at a
        rcases (by omega : rS n r K = 0 ∨ rS n r K = 1) with z | z
        · rw [z] at a ⊢
          rw [show rS n r (K + (i + 1)) = 1 by omega, if_pos nI_0, f_X8_stepsLikeFirst_31, if_neg (by decide)]
        · rw [z] at a ⊢
          rw [show rS n r (K + (i + 1)) = 0 by omega, if_neg (by decide), f_X8_stepsLikeFirst_31, if_neg (by decide)]
theorem x8_run_18 {n r K L : Nat} (h1 : 1 ≤ n) (h2 : n ≤ 12) (hr : r < 2 ^ n) (hK : K < n) (hKx : rX n r K = 1) (hL1 : 1 ≤ L) (hL : L ≤ n) (h0 : ∀ j, 1 ≤ j → j < L → rX n r (K + j) = 0) (hx : rX n r (K + L) = 1) : ∀ (f k : Nat), k ≤ K → K - k < f →
    f_X8_runLength_18 f (nI n) (nI (rXc n r K)) (nI (rXc n r k)) (nI (rTi n r k)) (nI k) = some (nI L)
  | 0, _, _, h => absurd h (Nat.not_lt_zero _)
  | f + 1, k, hk, hf => by
    have c1 := rXc_le n r k
    have c2 := rXc_le n r K
    rw [f_X8_runLength_18, if_neg (nI_ge (by omega) (by omega)), x8_begins h1 h2 hr, bd_s]
    by_cases e : k = K
    · subst e
      have s1 := x8_startsUp h1 h2 (rTi_lt h1 h2 hr k)
      rw [rTi_S h1 h2 hr k 0, Nat.zero_add] at s1
      rw [hKx, if_neg (by decide), if_pos rfl, f_X8_stepsLikeFirst, s1, bd_s, show (1 : Int32) = nI 1 from rfl, x8_steps_8 h1 h2 hr hL h0 hx kFU 1 (Nat.le_refl _) hL1 (by unfold kFU; omega), bd_s]
    · have IH := x8_run_18 h1 h2 hr hK hKx hL1 hL h0 hx f (k + 1) (by omega) (by omega)
      have m := rXc_mono n r (k + 1) (K - (k + 1))
      rw [show k + 1 + (K - (k + 1)) = K by omega] at m
      have d : rXc n r (k + 1) = rXc n r k + rX n r k := rfl
      rcases rX_01 n r k with z | z
      · rw [z, if_pos nI_0, f_X8_runLength_48, x8_turned h1 h2 (rTi_lt h1 h2 hr k), bd_s, nI_1]
        rw [d, z, Nat.add_zero] at IH; exact IH
      · rw [z, if_neg (by decide), if_neg (fun y => by have := (nI_eq (by omega) (by omega)).mp y; omega), f_X8_runLength_48, x8_turned h1 h2 (rTi_lt h1 h2 hr k), bd_s, nI_1, nI_1]
        rw [d, z] at IH; exact IH
theorem rX_run {n r K : Nat} (h1 : 1 ≤ n) (hKx : rX n r K = 1) : ∃ L, 1 ≤ L ∧ L ≤ n ∧ rX n r (K + L) = 1 ∧ ∀ j, 1 ≤ j → j < L → rX n r (K + j) = 0 := by
  obtain ⟨L, ⟨a1, a2⟩, a3⟩ := pk_least (fun L => 1 ≤ L ∧ rX n r (K + L) = 1) ⟨n, h1, by rw [rX_per h1]; exact hKx⟩
  refine ⟨L, a1, ?_, a2, fun j hj hjL => ?_⟩
  · rcases Nat.lt_or_ge n L with q | q
    · exact absurd ⟨h1, by rw [rX_per h1]; exact hKx⟩ (a3 n q)
    · exact q
  · rcases rX_01 n r (K + j) with z | z
    · exact z
    · exact absurd ⟨hj, z⟩ (a3 j hjL)
theorem x8_runLen0 {n r : Nat} {p : Int32} (h1 : 1 ≤ n) (h2 : n ≤ 12) (hr : r < 2 ^ n) (h : rH n r = 0) : f_X8_runLength (nI r) (nI n) p = some (nI n) := by
  rw [f_X8_runLength, x8_hexes h1 h2 hr, bd_s, h, if_pos nI_0]
theorem x8_runLen1 {n r : Nat} {p : Int32} (h1 : 1 ≤ n) (h2 : n ≤ 12) (hr : r < 2 ^ n) (h : rH n r ≠ 0) : f_X8_runLength (nI r) (nI n) p = f_X8_runLength_18 kFU (nI n) p 0 (nI r) 0 := by
  have l := rH_le n r
  rw [f_X8_runLength, x8_hexes h1 h2 hr, bd_s, if_neg (nI_ne0 (by omega) (by omega))]
