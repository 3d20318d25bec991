/-! RUNS -/
theorem rX_eq0 {n r k : Nat} (h : rX n r k = 0) : rS n r k = rS n r (k + n - 1) := by
  unfold rX at h
  by_cases q : rS n r k = rS n r (k + n - 1)
  · exact q
  · rw [if_neg q] at h; cases h
theorem rX_eq1 {n r k : Nat} (h : rX n r k = 1) : rS n r k ≠ rS n r (k + n - 1) := by
  unfold rX at h
  by_cases q : rS n r k = rS n r (k + n - 1)
  · rw [if_pos q] at h; cases h
  · exact q
theorem rS_back {n r K j : Nat} (h1 : 1 ≤ n) : rS n r (K + (j + 1) + n - 1) = rS n r (K + j) := by
  rw [show K + (j + 1) + n - 1 = K + j + n by omega, rS_per]
theorem rS_run {n r K L : Nat} (h1 : 1 ≤ n) (h : ∀ j, 1 ≤ j → j < L → rX n r (K + j) = 0) : ∀ j, j < L → rS n r (K + j) = rS n r K
  | 0, _ => rfl
  | j + 1, hj => by
    have a := rX_eq0 (h (j + 1) (by omega) hj)
    rw [rS_back h1] at a
    rw [a, rS_run h1 h j (by omega)]
theorem rXc_mono (n r k : Nat) : ∀ d, rXc n r k ≤ rXc n r (k + d)
  | 0 => Nat.le_refl _
  | d + 1 => Nat.le_trans (rXc_mono n r k d) (Nat.le_add_right _ _)
theorem rXc_find {n r i : Nat} : ∀ m, i < rXc n r m → ∃ K, K < m ∧ rX n r K = 1 ∧ rXc n r K = i
  | 0, h => absurd h (Nat.not_lt_zero _)
  | m + 1, h => by
    by_cases q : i < rXc n r m
    · obtain ⟨K, a, b⟩ := rXc_find m q
      exact ⟨K, by omega, b⟩
    · have h' : i < rXc n r m + rX n r m := h
      have e := rX_01 n r m
      exact ⟨m, by omega, by omega, by omega⟩
theorem x8_steps_8 {n r K L : Nat} (h1 : 1 ≤ n) (h2 : n ≤ 12) (hr : r < 2 ^ n) (hL : L ≤ n) (h0 : ∀ j, 1 ≤ j → j < L → rX n r (K + j) = 0) (hx : rX n r (K + L) = 1) : ∀ (f j : Nat), 1 ≤ j → j ≤ L → L - j < f →
    f_X8_stepsLikeFirst_8 f (nI (rTi n r K)) (nI n) (nI (rS n r K)) (nI j) = some (nI L)
  | 0, _, _, _, h => absurd h (Nat.not_lt_zero _)
  | f + 1, j, hj, hjL, hf => by
    have l := rTi_lt h1 h2 hr K
    rw [f_X8_stepsLikeFirst_8]
    by_cases q : n ≤ j
    · rw [if_pos ((nI_leI (by omega) (by omega)).mpr q), show j = L by omega]
    · have b := rw_bit h2 l (show j < n by omega)
      rw [rTi_S h1 h2 hr K j, Nat.add_comm j K] at b
      have l1 := rS_lt n r K
      have l2 := rS_lt n r (K + j)
      rw [if_neg (fun z => q ((nI_leI (by omega) (by omega)).mp z)), b]
      by_cases e : j < L
      · have IH := x8_steps_8 h1 h2 hr hL h0 hx f (j + 1) (by omega) (by omega) (by omega)
        rw [rS_run h1 h0 j e]
        rcases (by omega : rS n r K = 0 ∨ rS n r K = 1) with z | z
        · rw [z] at IH ⊢
          rw [if_pos nI_0, f_X8_stepsLikeFirst_31, if_pos nI_0, nI_1]; exact IH
        · rw [z] at IH ⊢
          rw [if_neg (by decide), f_X8_stepsLikeFirst_31, if_pos (show nI 1 = (1 : Int32) from rfl), nI_1]; exact IH
      · have ej : j = L := by omega
        subst ej
        obtain ⟨i, rfl⟩ : ∃ i, j = i + 1 := ⟨j - 1, by omega⟩
        have a := rX_eq1 hx
        rw [rS_back h1, rS_run h1 h0 i (by omega)] at a
        rcases (by omega : rS n r K = 0 ∨ rS n r K = 1) with z | z
        · rw [z] at a ⊢
          rw [show rS n r (K + (i + 1)) = 1 by omega, if_pos nI_0, f_X8_stepsLikeFirst_31, if_neg (by decide)]
        · rw [z] at a ⊢
          rw [show rS n r (K + (i + 1)) = 0 by omega, if_neg (by decide), f_X8_stepsLikeFirst_31, if_neg (by decide)]
theorem x8_run_18 {n r K L : Nat} (h1 : 1 ≤ n) (h2 : n ≤ 12) (hr : r < 2 ^ n) (hK : K < n) (hKx : rX n r K = 1) (hL1 : 1 ≤ L) (hL : L ≤ n) (h0 : ∀ j, 1 ≤ j → j < L → rX n r (K + j) = 0) (hx : rX n r (K + L) = 1) : ∀ (f k : Nat), k ≤ K → K - k < f →
    f_X8_runLength_18 f (nI n) (nI (rXc n r K)) (nI (rXc n r k)) (nI (rTi n r k)) (nI k) = some (nI L)
  | 0, _, _, h => absurd h (Nat.not_lt_zero _)
  | f + 1, k, hk, hf => by
    have c1 := rXc_le n r k
    have c2 := rXc_le n r K
    rw [f_X8_runLength_18, if_neg (nI_ge (by omega) (by omega)), x8_begins h1 h2 hr, bd_s]
    by_cases e : k = K
    · subst e
      have s1 := x8_startsUp h1 h2 (rTi_lt h1 h2 hr k)
      rw [rTi_S h1 h2 hr k 0, Nat.zero_add] at s1
      rw [hKx, if_neg (by decide), if_pos rfl, f_X8_stepsLikeFirst, s1, bd_s, show (1 : Int32) = nI 1 from rfl, x8_steps_8 h1 h2 hr hL h0 hx kFU 1 (Nat.le_refl _) hL1 (by unfold kFU; omega), bd_s]
    · have IH := x8_run_18 h1 h2 hr hK hKx hL1 hL h0 hx f (k + 1) (by omega) (by omega)
      have m := rXc_mono n r (k + 1) (K - (k + 1))
      rw [show k + 1 + (K - (k + 1)) = K by omega] at m
      have d : rXc n r (k + 1) = rXc n r k + rX n r k := rfl
      rcases rX_01 n r k with z | z
      · rw [z, if_pos nI_0, f_X8_runLength_48, x8_turned h1 h2 (rTi_lt h1 h2 hr k), bd_s, nI_1]
        rw [d, z, Nat.add_zero] at IH; exact IH
      · rw [z, if_neg (by decide), if_neg (fun y => by have := (nI_eq (by omega) (by omega)).mp y; omega), f_X8_runLength_48, x8_turned h1 h2 (rTi_lt h1 h2 hr k), bd_s, nI_1, nI_1]
        rw [d, z] at IH; exact IH
theorem x13_run_113 {n r K L : Nat} {a b d e : Int32} {V : Nat → Int32} (h1 : 1 ≤ n) (h2 : n ≤ 12) (hr : r < 2 ^ n) (hK : K < n) (hL : L ≤ n) (h0 : ∀ j, 1 ≤ j → j < L → rX n r (K + j) = 0) (hx : rX n r (K + L) = 1) : ∀ (f j : Nat), 1 ≤ j → j ≤ L → L - j < f →
    f_X13_run_113 f (nI n) (nI r) (nI K) (nI j) a b d e V = some (nI L, a, 0, -1)
  | 0, _, _, _, h => absurd h (Nat.not_lt_zero _)
  | f + 1, j, hj, hjL, hf => by
    rw [f_X13_run_113, nI_add, x13_isHex h1 h2 hr (by omega), bd_s]
    by_cases q : j = L
    · subst q
      rw [hx, if_neg (by decide)]; rfl
    · rw [h0 j hj (by omega), if_pos nI_0, nI_1]
      exact x13_run_113 h1 h2 hr hK hL h0 hx f (j + 1) (by omega) (by omega) (by omega)
theorem x13_run_73 {n r K L : Nat} {a b d e : Int32} {V : Nat → Int32} (h1 : 1 ≤ n) (h2 : n ≤ 12) (hr : r < 2 ^ n) (hK : K < n) (hKx : rX n r K = 1) (hL1 : 1 ≤ L) (hL : L ≤ n) (h0 : ∀ j, 1 ≤ j → j < L → rX n r (K + j) = 0) (hx : rX n r (K + L) = 1) : ∀ (f k : Nat), k ≤ K → K - k < f →
    f_X13_run_73 f (nI (rXc n r K)) (nI n) (nI r) (nI k) (nI (rXc n r k)) a b d e V = some (nI L, a, 0, -1)
  | 0, _, _, h => absurd h (Nat.not_lt_zero _)
  | f + 1, k, hk, hf => by
    have c1 := rXc_le n r k
    have c2 := rXc_le n r K
    have x := x13_isHex (k := k) h1 h2 hr (by omega)
    rw [f_X13_run_73, x, bd_s]
    by_cases e : k = K
    · subst e
      rw [hKx, if_neg (by decide), if_pos (nI_le (Nat.le_refl _) (by omega)), show (1 : Int32) = nI 1 from rfl]
      exact x13_run_113 h1 h2 hr hK hL h0 hx kFU 1 (Nat.le_refl _) hL1 (by unfold kFU; omega)
    · have IH := x13_run_73 (a := a) (b := b) (d := d) (e := ‹Int32›) (V := V) h1 h2 hr hK hKx hL1 hL h0 hx f (k + 1) (by omega) (by omega)
      have m := rXc_mono n r (k + 1) (K - (k + 1))
      rw [show k + 1 + (K - (k + 1)) = K by omega] at m
      have dd : rXc n r (k + 1) = rXc n r k + rX n r k := rfl
      rcases rX_01 n r k with z | z
      · rw [z, if_pos nI_0, f_X13_run_90, x, bd_s, z, if_pos nI_0, f_X13_run_104, nI_1]
        rw [dd, z, Nat.add_zero] at IH; exact IH
      · rw [z, if_neg (by decide), if_neg (nI_ge (by omega) (by omega)), f_X13_run_90, x, bd_s, z, if_neg (by decide), f_X13_run_104, nI_1, nI_1]
        rw [dd, z] at IH; exact IH
theorem rX_run {n r K : Nat} (h1 : 1 ≤ n) (hKx : rX n r K = 1) : ∃ L, 1 ≤ L ∧ L ≤ n ∧ rX n r (K + L) = 1 ∧ ∀ j, 1 ≤ j → j < L → rX n r (K + j) = 0 := by
  obtain ⟨L, ⟨a1, a2⟩, a3⟩ := pk_least (fun L => 1 ≤ L ∧ rX n r (K + L) = 1) ⟨n, h1, by rw [rX_per h1]; exact hKx⟩
  refine ⟨L, a1, ?_, a2, fun j hj hjL => ?_⟩
  · rcases Nat.lt_or_ge n L with q | q
    · exact absurd ⟨h1, by rw [rX_per h1]; exact hKx⟩ (a3 n q)
    · exact q
  · rcases rX_01 n r (K + j) with z | z
    · exact z
    · exact absurd ⟨hj, z⟩ (a3 j hjL)
theorem run_main {n r i : Nat} (h1 : 1 ≤ n) (h2 : n ≤ 12) (hr : r < 2 ^ n) (hi : i < rH n r) : ∃ M : Nat, f_X8_runLength_18 kFU (nI n) (nI i) 0 (nI r) 0 = some (nI M) ∧ ∀ (a b d e : Int32) (V : Nat → Int32), f_X13_run_73 kFU (nI i) (nI n) (nI r) 0 0 a b d e V = some (nI M, a, 0, -1) := by
  rw [← rXc_H h1 h2 hr] at hi
  obtain ⟨K, k1, k2, k3⟩ := rXc_find n hi
  obtain ⟨M, m1, m2, m3, m4⟩ := rX_run h1 k2
  refine ⟨M, ?_, fun a b d e V => ?_⟩
  · have r1 := x8_run_18 h1 h2 hr k1 k2 m1 m2 m4 m3 kFU 0 (Nat.zero_le _) (by unfold kFU; omega)
    rw [k3] at r1
    exact r1
  · have r2 := x13_run_73 (a := a) (b := b) (d := d) (e := e) (V := V) h1 h2 hr k1 k2 m1 m2 m4 m3 kFU 0 (Nat.zero_le _) (by unfold kFU; omega)
    rw [k3] at r2
    exact r2
theorem x8_runLen0 {n r : Nat} {p : Int32} (h1 : 1 ≤ n) (h2 : n ≤ 12) (hr : r < 2 ^ n) (h : rH n r = 0) : f_X8_runLength (nI r) (nI n) p = some (nI n) := by
  rw [f_X8_runLength, x8_hexes h1 h2 hr, bd_s, h, if_pos nI_0]
theorem x8_runLen1 {n r : Nat} {p : Int32} (h1 : 1 ≤ n) (h2 : n ≤ 12) (hr : r < 2 ^ n) (h : rH n r ≠ 0) : f_X8_runLength (nI r) (nI n) p = f_X8_runLength_18 kFU (nI n) p 0 (nI r) 0 := by
  have l := rH_le n r
  rw [f_X8_runLength, x8_hexes h1 h2 hr, bd_s, if_neg (nI_ne0 (by omega) (by omega))]
theorem q_run {c : Nat} {L R V : Nat → Int32} (h : SV c L R V) (p w t a b d : Int32) : ∃ x y : Int32, y ≠ 4 ∧ f_X11_run p w t (nI c) L R = some (x, y) ∧ f_X13_run p w a b d (nI c) V = some (x, 0, y, -1) := by
  rcases q_sv h p with ⟨s, n, r, hs, hs5, h1, h2, hr, -, -, -, e1, e2, e3, e4, e5, e6⟩ | ⟨e1, e2⟩
  · have h1' : 1 ≤ n := by omega
    have u1 := x8_runs h1' h2 hr
    have u2 := x13_runsOf h1' h2 hr
    have u4 := x13_hexes h1' h2 hr
    have l := rH_le n r
    have b1 : f_X11_run_48 t (nI c) L R = some (-1, 1) := rfl
    have b2 : f_X13_run_46 0 b d (nI c) V = some (-1, 0, 1, -1) := rfl
    by_cases g : w < 0
    · exact ⟨-1, 1, by decide, by simp only [f_X11_run, e1, e3, e4, bd_s, if_true, g, b1], by simp only [f_X13_run, e2, e5, e6, bd_s, i10, if_false, if_true, g, b2]⟩
    · obtain ⟨i, hi, rfl⟩ := nI_of g
      by_cases q0 : rH n r = 0
      · rw [if_pos q0] at u1 u2
        rw [q0, nI_0] at u4
        by_cases q1 : nI i < nI 1
        · exact ⟨nI n, 0, by decide, by rw [f_X11_run, e1, bd_s, if_pos rfl, e3, bd_s, e4, bd_s, if_neg g, u1, bd_s, if_pos q1, x8_runLen0 h1' h2 hr q0, bd_s, f_X11_granted, bd_s], by simp only [f_X13_run, e2, e5, e6, u2, u4, bd_s, i10, if_false, if_true, g, q1, f_X13_good]⟩
        · exact ⟨-1, 1, by decide, by rw [f_X11_run, e1, bd_s, if_pos rfl, e3, bd_s, e4, bd_s, if_neg g, u1, bd_s, if_neg q1, b1], by simp only [f_X13_run, e2, e5, e6, u2, bd_s, i10, if_false, g, q1, b2]⟩
      · rw [if_neg q0] at u1 u2
        by_cases q1 : i < rH n r
        · have g1 : nI i < nI (rH n r) := (nI_ltI hi (by omega)).mpr q1
          have z := nI_ne0 (n := rH n r) (by omega) (by omega)
          obtain ⟨M, r1, r2⟩ := run_main h1' h2 hr q1
          exact ⟨nI M, 0, by decide, by rw [f_X11_run, e1, bd_s, if_pos rfl, e3, bd_s, e4, bd_s, if_neg g, u1, bd_s, if_pos g1, x8_runLen1 h1' h2 hr q0, r1, bd_s, f_X11_granted, bd_s], by rw [f_X13_run, e2, bd_s, if_neg (by decide), e6, bd_s, e5, bd_s, if_neg g, u2, bd_s, if_pos g1, u4, bd_s, if_neg z, r2]⟩
        · have g1 : ¬ nI i < nI (rH n r) := nI_nlt (by omega) hi
          exact ⟨-1, 1, by decide, by rw [f_X11_run, e1, bd_s, if_pos rfl, e3, bd_s, e4, bd_s, if_neg g, u1, bd_s, if_neg g1, b1], by simp only [f_X13_run, e2, e5, e6, u2, bd_s, i10, if_false, g, g1, b2]⟩
  · refine ⟨-1, 1, by decide, ?_, ?_⟩
    · simp only [f_X11_run, e1, bd_s, i10, if_false, f_X11_refused]
    · simp only [f_X13_run, e2, bd_s, if_true, f_X13_refused]
