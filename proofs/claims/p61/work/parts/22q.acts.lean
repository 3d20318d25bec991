/-! ACTS, UNDOING, IMAGES -/
def OKr (n' r' : Int32) : Prop := ∃ n r : Nat, 2 ≤ n ∧ n ≤ 12 ∧ r < 2 ^ n ∧ n' = nI n ∧ r' = nI r
def AN (a : Nat) (P V : Nat → Int32) (j k : Nat) : Int32 := if j < a then P (10 * j + k) else V k
def AR (c a : Nat) (ch al ar P V : Nat → Int32) : Prop := a ≤ 16 ∧ ∀ j, j < a → (∀ s, s < c → OKr (P (10 * j + s)) (P (10 * j + (5 + s)))) ∧ ∃ s, s < c ∧ ch j = nI s ∧ al j = P (10 * j + s) ∧ ar j = P (10 * j + (5 + s)) ∧ ∀ s', s' < c → s' ≠ s → P (10 * j + s') = AN a P V (j + 1) s' ∧ P (10 * j + (5 + s')) = AN a P V (j + 1) (5 + s')
theorem SV_ok {c : Nat} {L R V : Nat → Int32} (h : SV c L R V) {s : Nat} (hs : s < c) : OKr (V s) (V (5 + s)) ∧ L s = V s ∧ R s = V (5 + s) := by
  obtain ⟨n, r, h1, h2, h3, h4, h5, h6, h7⟩ := h.2 s hs
  exact ⟨⟨n, r, h1, h2, h3, h6, h7⟩, by rw [h4, h6], by rw [h5, h7]⟩
theorem SV_mk {c : Nat} {L R V : Nat → Int32} (hc : c ≤ 5) (h : ∀ s, s < c → OKr (V s) (V (5 + s)) ∧ L s = V s ∧ R s = V (5 + s)) : SV c L R V := by
  refine ⟨hc, fun s hs => ?_⟩
  obtain ⟨⟨n, r, h1, h2, h3, h4, h5⟩, h6, h7⟩ := h s hs
  exact ⟨n, r, h1, h2, h3, by rw [h6, h4], by rw [h7, h5], h4, h5⟩
theorem SV_put {c s : Nat} {L R V : Nat → Int32} {n' r' : Int32} (h : SV c L R V) (hs : s < c) (ok : OKr n' r') : SV c (upd L s n') (upd R s r') (upd (upd V s n') (5 + s) r') := by
  have hc := h.1
  refine SV_mk hc (fun t ht => ?_)
  have e5 : ∀ t : Nat, t < c → t ≠ 5 + s := fun t ht => by omega
  by_cases e : t = s
  · subst e
    rw [pk_us, pk_us, pk_us, pk_un (e5 t ht), pk_us]
    exact ⟨ok, rfl, rfl⟩
  · rw [pk_un e, pk_un e, pk_un (e5 t ht), pk_un e, pk_un (show 5 + t ≠ 5 + s by omega), pk_un (show 5 + t ≠ s by omega)]
    exact SV_ok h ht
theorem x9_put {s : Nat} {r' n' : Int32} {L R : Nat → Int32} (hs : s < 5) : f_X9_put (nI s) r' n' L R = some (upd L s n', upd R s r') := by
  rw [f_X9_put, x11_set (by omega) hs, bd_s, x11_set (by omega) hs, bd_s]
/-! the class forgets the first act, the reference too -/
theorem x0_forget_2 {K : Int32} {ch al ar : Nat → Int32} : ∀ (f k : Nat) (ch' al' ar' : Nat → Int32), 1 ≤ k → k ≤ 16 → 16 - k < f → (∀ j, j + 1 < k → ch' j = ch (j + 1) ∧ al' j = al (j + 1) ∧ ar' j = ar (j + 1)) → (∀ j, k ≤ j + 1 → ch' j = ch j ∧ al' j = al j ∧ ar' j = ar j) →
    ∃ ch2 al2 ar2, f_X0_forgetFirst_2 f (nI k) K ch' al' ar' = some (15, ch2, al2, ar2) ∧ ∀ j, j < 15 → ch2 j = ch (j + 1) ∧ al2 j = al (j + 1) ∧ ar2 j = ar (j + 1)
  | 0, _, _, _, _, _, _, h, _, _ => absurd h (Nat.not_lt_zero _)
  | f + 1, k, ch', al', ar', h1, hk, hf, ha, hb => by
    rw [f_X0_forgetFirst_2]
    by_cases q : 16 ≤ k
    · rw [if_pos ((n16 hk).mpr q)]
      exact ⟨ch', al', ar', rfl, fun j hj => ha j (by omega)⟩
    · obtain ⟨b1, b2, b3⟩ := hb k (by omega)
      rw [if_neg (fun z => q ((n16 hk).mp z)), x11_at (by omega) (by omega), bd_s, nI_m1 h1, x11_set (by omega) (by omega), bd_s, x11_at (by omega) (by omega), bd_s, x11_set (by omega) (by omega), bd_s, x11_at (by omega) (by omega), bd_s, x11_set (by omega) (by omega), bd_s, nI_1, b1, b2, b3]
      refine x0_forget_2 f (k + 1) _ _ _ (by omega) (by omega) (by omega) (fun j hj => ?_) (fun j hj => ?_)
      · by_cases e : j = k - 1
        · rw [e, pk_us, pk_us, pk_us, Nat.sub_add_cancel h1]
          exact ⟨rfl, rfl, rfl⟩
        · rw [pk_un e, pk_un e, pk_un e]
          exact ha j (by omega)
      · rw [pk_un (show j ≠ k - 1 by omega), pk_un (show j ≠ k - 1 by omega), pk_un (show j ≠ k - 1 by omega)]
        exact hb j (by omega)
theorem AR_shift {c : Nat} {ch al ar P V ch2 al2 ar2 P2 : Nat → Int32} (hc : c ≤ 5) (h : AR c 16 ch al ar P V) (h1 : ∀ j, j < 15 → ch2 j = ch (j + 1) ∧ al2 j = al (j + 1) ∧ ar2 j = ar (j + 1)) (h2 : ∀ i, i < 150 → P2 i = P (i + 10)) : AR c 15 ch2 al2 ar2 P2 V := by
  refine ⟨by omega, fun j hj => ?_⟩
  obtain ⟨k1, s, k2, k3, k4, k5, k6⟩ := h.2 (j + 1) (by omega)
  obtain ⟨b1, b2, b3⟩ := h1 j hj
  have sh : ∀ k, k < 10 → P2 (10 * j + k) = P (10 * (j + 1) + k) := fun k hk => by
    rw [h2 _ (by omega)]; congr 1; omega
  refine ⟨fun s' hs' => ?_, s, k2, by rw [b1, k3], by rw [b2, k4, sh s (by omega)], by rw [b3, k5, sh (5 + s) (by omega)], fun s' hs' ne => ?_⟩
  · rw [sh s' (by omega), sh (5 + s') (by omega)]; exact k1 s' hs'
  · have an : ∀ k, k < 10 → AN 15 P2 V (j + 1) k = AN 16 P V (j + 1 + 1) k := fun k hk => by
      unfold AN
      by_cases q : j + 1 < 15
      · rw [if_pos q, if_pos (by omega), h2 _ (by omega)]; congr 1; omega
      · rw [if_neg q, if_neg (by omega)]
    obtain ⟨m1, m2⟩ := k6 s' hs' ne
    rw [sh s' (by omega), sh (5 + s') (by omega), an s' (by omega), an (5 + s') (by omega)]
    exact ⟨m1, m2⟩
theorem AR_push {c a s : Nat} {ch al ar P V L R P2 : Nat → Int32} {n' r' : Int32} (ha : a < 16) (hs : s < c) (hV : SV c L R V) (h : AR c a ch al ar P V) (h1 : ∀ j, j < 10 → P2 (10 * a + j) = V j) (h2 : ∀ i, i < 10 * a → P2 i = P i) : AR c (a + 1) (upd ch a (nI s)) (upd al a (L s)) (upd ar a (R s)) P2 (upd (upd V s n') (5 + s) r') := by
  have hc := hV.1
  refine ⟨by omega, fun j hj => ?_⟩
  by_cases e : j = a
  · subst e
    obtain ⟨o1, o2, o3⟩ := SV_ok hV hs
    refine ⟨fun s' hs' => ?_, s, hs, pk_us, ?_, ?_, fun s' hs' ne => ?_⟩
    · rw [h1 s' (by omega), h1 (5 + s') (by omega)]; exact (SV_ok hV hs').1
    · rw [pk_us, h1 s (by omega), o2]
    · rw [pk_us, h1 (5 + s) (by omega), o3]
    · unfold AN
      rw [if_neg (by omega), if_neg (by omega), h1 s' (by omega), h1 (5 + s') (by omega), pk_un (show s' ≠ 5 + s by omega), pk_un ne, pk_un (show 5 + s' ≠ 5 + s by omega), pk_un (show 5 + s' ≠ s by omega)]
      exact ⟨rfl, rfl⟩
  · have hja : j < a := by omega
    obtain ⟨k1, t, k2, k3, k4, k5, k6⟩ := h.2 j hja
    have sm : ∀ k, k < 10 → P2 (10 * j + k) = P (10 * j + k) := fun k hk => h2 _ (by omega)
    have an : ∀ k, k < 10 → AN (a + 1) P2 (upd (upd V s n') (5 + s) r') (j + 1) k = AN a P V (j + 1) k := fun k hk => by
      unfold AN
      rw [if_pos (by omega)]
      by_cases q : j + 1 < a
      · rw [if_pos q, h2 _ (by omega)]
      · rw [if_neg q, show j + 1 = a by omega, h1 k hk]
    refine ⟨fun s' hs' => ?_, t, k2, by rw [pk_un e, k3], by rw [pk_un e, k4, sm t (by omega)], by rw [pk_un e, k5, sm (5 + t) (by omega)], fun s' hs' ne => ?_⟩
    · rw [sm s' (by omega), sm (5 + s') (by omega)]; exact k1 s' hs'
    · rw [sm s' (by omega), sm (5 + s') (by omega), an s' (by omega), an (5 + s') (by omega)]
      exact k6 s' hs' ne
/-! undo -/
/-! images -/
def IR (c i : Nat) (il ir K : Nat → Int32) : Prop := i ≤ 3 ∧ ∀ j, j < i → ∀ s, s < c → OKr (K (10 * j + s)) (K (10 * j + (5 + s))) ∧ il (5 * j + s) = K (10 * j + s) ∧ ir (5 * j + s) = K (10 * j + (5 + s))
theorem x3_keep_2 {i : Nat} {L R il ir : Nat → Int32} (hi : i < 3) : ∀ (f k : Nat) (il' ir' : Nat → Int32), k ≤ 5 → 5 - k < f → (∀ j, j < k → il' (5 * i + j) = L j ∧ ir' (5 * i + j) = R j) → (∀ j, j < 5 * i → il' j = il j ∧ ir' j = ir j) →
    ∃ il2 ir2, f_X3_keep_2 f (nI k) (nI i) L R il' ir' = some (nI i, nI (i + 1), il2, ir2) ∧ (∀ j, j < 5 → il2 (5 * i + j) = L j ∧ ir2 (5 * i + j) = R j) ∧ ∀ j, j < 5 * i → il2 j = il j ∧ ir2 j = ir j
  | 0, _, _, _, _, h, _, _ => absurd h (Nat.not_lt_zero _)
  | f + 1, k, il', ir', hk, hf, h1, h2 => by
    rw [f_X3_keep_2]
    by_cases q : 5 ≤ k
    · rw [if_pos (show (5 : Int32) ≤ nI k from (nI_leI (a := 5) (by omega) (by omega)).mpr q), lt_q, nI_1, nI_pred]
      exact ⟨il', ir', rfl, fun j hj => h1 j (by omega), h2⟩
    · have ix : (nI i * (5 : Int32)) + nI k = nI (5 * i + k) := by rw [show (5 : Int32) = nI 5 from rfl, pk_mul, nI_add, Nat.mul_comm i 5]
      rw [if_neg (show ¬ (5 : Int32) ≤ nI k from fun z => q ((nI_leI (a := 5) (by omega) (by omega)).mp z)), x9_row (by omega), bd_s, ix, x11_set (by omega) (by omega), bd_s, x9_steps (by omega), bd_s, x11_set (by omega) (by omega), bd_s, nI_1]
      refine x3_keep_2 hi f (k + 1) _ _ (by omega) (by omega) (fun j hj => ?_) (fun j hj => ?_)
      · by_cases e : j = k
        · rw [e, pk_us, pk_us]; exact ⟨rfl, rfl⟩
        · rw [pk_un (show 5 * i + j ≠ 5 * i + k by omega), pk_un (show 5 * i + j ≠ 5 * i + k by omega)]; exact h1 j (by omega)
      · rw [pk_un (show j ≠ 5 * i + k by omega), pk_un (show j ≠ 5 * i + k by omega)]; exact h2 j hj
theorem x3_bring_2 {i : Nat} {L R il ir : Nat → Int32} (hi : i < 3) : ∀ (f k : Nat) (L' R' : Nat → Int32), k ≤ 5 → 5 - k < f → (∀ j, j < k → L' j = il (5 * i + j) ∧ R' j = ir (5 * i + j)) →
    ∃ L2 R2, f_X3_bring_2 f (nI i) (nI k) L' R' il ir = some (L2, R2) ∧ ∀ j, j < 5 → L2 j = il (5 * i + j) ∧ R2 j = ir (5 * i + j)
  | 0, _, _, _, _, h, _ => absurd h (Nat.not_lt_zero _)
  | f + 1, k, L', R', hk, hf, h1 => by
    rw [f_X3_bring_2]
    by_cases q : 5 ≤ k
    · rw [if_pos (show (5 : Int32) ≤ nI k from (nI_leI (a := 5) (by omega) (by omega)).mpr q)]
      exact ⟨L', R', rfl, fun j hj => h1 j (by omega)⟩
    · have ix : (nI i * (5 : Int32)) + nI k = nI (5 * i + k) := by rw [show (5 : Int32) = nI 5 from rfl, pk_mul, nI_add, Nat.mul_comm i 5]
      rw [if_neg (show ¬ (5 : Int32) ≤ nI k from fun z => q ((nI_leI (a := 5) (by omega) (by omega)).mp z)), ix, x11_at (by omega) (by omega), bd_s, x11_at (by omega) (by omega), bd_s, x9_put (by omega), bd_s, nI_1]
      refine x3_bring_2 (L := L) (R := R) hi f (k + 1) _ _ (by omega) (by omega) (fun j hj => ?_)
      dsimp only
      by_cases e : j = k
      · rw [e, pk_us, pk_us]; exact ⟨rfl, rfl⟩
      · rw [pk_un e, pk_un e]; exact h1 j (by omega)
