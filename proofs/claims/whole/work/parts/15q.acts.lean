/-! ACTS, UNDOING, IMAGES -/
/-- a stack's two numbers are those of a row -/
def OKr (n' r' : Int32) : Prop := ∃ n r : Nat, 2 ≤ n ∧ n ≤ 12 ∧ r < 2 ^ n ∧ n' = nI n ∧ r' = nI r
/-- the rows behind the j-th act: in the list, or now -/
def AN (a : Nat) (P V : Nat → Int32) (j k : Nat) : Int32 := if j < a then P (10 * j + k) else V k
def AR (c a : Nat) (ch al ar P V : Nat → Int32) : Prop := a ≤ 16 ∧ ∀ j, j < a → (∀ s, s < c → OKr (P (10 * j + s)) (P (10 * j + (5 + s)))) ∧ ∃ s, s < c ∧ ch j = nI s ∧ al j = P (10 * j + s) ∧ ar j = P (10 * j + (5 + s)) ∧ ∀ s', s' < c → s' ≠ s → P (10 * j + s') = AN a P V (j + 1) s' ∧ P (10 * j + (5 + s')) = AN a P V (j + 1) (5 + s')
theorem SV_ok {c : Nat} {L R V : Nat → Int32} (h : SV c L R V) {s : Nat} (hs : s < c) : OKr (V s) (V (5 + s)) ∧ L s = V s ∧ R s = V (5 + s) := by
  obtain ⟨n, r, h1, h2, h3, h4, h5, h6, h7⟩ := h.2 s hs
  exact ⟨⟨n, r, h1, h2, h3, h6, h7⟩, by rw [h4, h6], by rw [h5, h7]⟩
theorem SV_mk {c : Nat} {L R V : Nat → Int32} (hc : c ≤ 5) (h : ∀ s, s < c → OKr (V s) (V (5 + s)) ∧ L s = V s ∧ R s = V (5 + s)) : SV c L R V := by
  refine ⟨hc, fun s hs => ?_⟩
  obtain ⟨⟨n, r, h1, h2, h3, h4, h5⟩, h6, h7⟩ := h s hs
  exact ⟨n, r, h1, h2, h3, by rw [h6, h4], by rw [h7, h5], h4, h5⟩
/-- one stack changed on both sides -/
theorem SV_put {c s : Nat} {L R V : Nat → Int32} {n' r' : Int32} (h : SV c L R V) (hs : s < c) (ok : OKr n' r') : SV c (upd L s n') (upd R s r') (upd (upd V s n') (5 + s) r') := by
  have hc := h.1
  refine SV_mk hc (fun t ht => ?_)
  have e5 : ∀ t : Nat, t < c → t ≠ 5 + s := fun t ht => by omega
  by_cases e : t = s
  · subst e
    rw [pk_us, pk_us, pk_us, pk_un (e5 t ht), pk_us]
    exact ⟨ok, rfl, rfl⟩
  · rw [pk_un e, pk_un e, pk_un (e5 t ht), pk_un e, pk_un (show 5 + t ≠ 5 + s by omega), pk_un (show 5 + t ≠ s by omega)]
    exact SV_ok h ht
theorem x9_put {s : Nat} {r' n' : Int32} {L R : Nat → Int32} (hs : s < 5) : f_X9_put (nI s) r' n' L R = some (upd L s n', upd R s r') := by
  rw [f_X9_put, x11_set (by omega) hs, bd_s, x11_set (by omega) hs, bd_s]
/-! the class forgets the first act, the reference too -/
theorem x0_forget_2 {K : Int32} {ch al ar : Nat → Int32} : ∀ (f k : Nat) (ch' al' ar' : Nat → Int32), 1 ≤ k → k ≤ 16 → 16 - k < f → (∀ j, j + 1 < k → ch' j = ch (j + 1) ∧ al' j = al (j + 1) ∧ ar' j = ar (j + 1)) → (∀ j, k ≤ j + 1 → ch' j = ch j ∧ al' j = al j ∧ ar' j = ar j) →
    ∃ ch2 al2 ar2, f_X0_forgetFirst_2 f (nI k) K ch' al' ar' = some (15, ch2, al2, ar2) ∧ ∀ j, j < 15 → ch2 j = ch (j + 1) ∧ al2 j = al (j + 1) ∧ ar2 j = ar (j + 1)
  | 0, _, _, _, _, _, _, h, _, _ => absurd h (Nat.not_lt_zero _)
  | f + 1, k, ch', al', ar', h1, hk, hf, ha, hb => by
    rw [f_X0_forgetFirst_2]
    by_cases q : 16 ≤ k
    · rw [if_pos ((n16 hk).mpr q)]
      exact ⟨ch', al', ar', rfl, fun j hj => ha j (by omega)⟩
    · obtain ⟨b1, b2, b3⟩ := hb k (by omega)
      rw [if_neg (fun z => q ((n16 hk).mp z)), x11_at (by omega) (by omega), bd_s, nI_m1 h1, x11_set (by omega) (by omega), bd_s, x11_at (by omega) (by omega), bd_s, x11_set (by omega) (by omega), bd_s, x11_at (by omega) (by omega), bd_s, x11_set (by omega) (by omega), bd_s, nI_1, b1, b2, b3]
      refine x0_forget_2 f (k + 1) _ _ _ (by omega) (by omega) (by omega) (fun j hj => ?_) (fun j hj => ?_)
      · by_cases e : j = k - 1
        · rw [e, pk_us, pk_us, pk_us, Nat.sub_add_cancel h1]
          exact ⟨rfl, rfl, rfl⟩
        · rw [pk_un e, pk_un e, pk_un e]
          exact ha j (by omega)
      · rw [pk_un (show j ≠ k - 1 by omega), pk_un (show j ≠ k - 1 by omega), pk_un (show j ≠ k - 1 by omega)]
        exact hb j (by omega)
theorem x13_rem_51 {a : Nat} {P V : Nat → Int32} (ha : a < 16) : ∀ (f k : Nat) (P' : Nat → Int32), k ≤ 10 → 10 - k < f → (∀ j, j < k → P' (10 * a + j) = V j) → (∀ i, i < 10 * a → P' i = P i) →
    ∃ P2, f_X13_remembers_51 f (nI k) (nI a) P' V = some (nI (a + 1), P2) ∧ (∀ j, j < 10 → P2 (10 * a + j) = V j) ∧ ∀ i, i < 10 * a → P2 i = P i
  | 0, _, _, _, h, _, _ => absurd h (Nat.not_lt_zero _)
  | f + 1, k, P', hk, hf, h1, h2 => by
    rw [f_X13_remembers_51]
    by_cases q : 10 ≤ k
    · rw [if_pos (show (10 : Int32) ≤ nI k from (nI_leI (a := 10) (by omega) (by omega)).mpr q), lt_q, nI_1]
      exact ⟨P', rfl, fun j hj => h1 j (by omega), h2⟩
    · have ix : ((10 : Int32) * nI a) + nI k = nI (10 * a + k) := by rw [show (10 : Int32) = nI 10 from rfl, pk_mul, nI_add]
      rw [if_neg (show ¬ (10 : Int32) ≤ nI k from fun z => q ((nI_leI (a := 10) (by omega) (by omega)).mp z)), gd_t _ (nI_in (by omega) (by omega)), lt_q, ix, gd_t _ (nI_in (by omega) (by omega)), lt_q, nI_clamp (by omega), nI_clamp (by omega), nI_1]
      refine x13_rem_51 ha f (k + 1) _ (by omega) (by omega) (fun j hj => ?_) (fun i hi => ?_)
      · by_cases e : j = k
        · rw [e, pk_us]
        · rw [pk_un (show 10 * a + j ≠ 10 * a + k by omega)]; exact h1 j (by omega)
      · rw [pk_un (show i ≠ 10 * a + k by omega)]; exact h2 i hi
theorem x13_rem_11 {A' : Int32} {P V : Nat → Int32} : ∀ (f k : Nat) (P' : Nat → Int32), k ≤ 150 → 150 - k < f → (∀ i, i < k → P' i = P (i + 10)) → (∀ i, k ≤ i → P' i = P i) →
    ∃ P2, (∀ i, i < 150 → P2 i = P (i + 10)) ∧ f_X13_remembers_11 f (nI k) A' P' V = f_X13_remembers_49 (A' - 1) P2 V
  | 0, _, _, _, h, _, _ => absurd h (Nat.not_lt_zero _)
  | f + 1, k, P', hk, hf, h1, h2 => by
    rw [f_X13_remembers_11]
    by_cases q : 150 ≤ k
    · rw [if_pos (show (150 : Int32) ≤ nI k from (nI_leI (a := 150) (by omega) (by omega)).mpr q), lt_q]
      exact ⟨P', fun i hi => h1 i (by omega), rfl⟩
    · rw [if_neg (show ¬ (150 : Int32) ≤ nI k from fun z => q ((nI_leI (a := 150) (by omega) (by omega)).mp z)), show nI k + (10 : Int32) = nI (k + 10) from nI_add k 10, gd_t _ (nI_in (by omega) (by omega)), lt_q, gd_t _ (nI_in (by omega) (by omega)), lt_q, nI_clamp (by omega), nI_clamp (by omega), nI_1, h2 (k + 10) (by omega)]
      refine x13_rem_11 f (k + 1) _ (by omega) (by omega) (fun i hi => ?_) (fun i hi => ?_)
      · by_cases e : i = k
        · rw [e, pk_us]
        · rw [pk_un e]; exact h1 i (by omega)
      · rw [pk_un (show i ≠ k by omega)]; exact h2 i (by omega)
/-- the list one shorter, its first act forgotten -/
theorem AR_shift {c : Nat} {ch al ar P V ch2 al2 ar2 P2 : Nat → Int32} (hc : c ≤ 5) (h : AR c 16 ch al ar P V) (h1 : ∀ j, j < 15 → ch2 j = ch (j + 1) ∧ al2 j = al (j + 1) ∧ ar2 j = ar (j + 1)) (h2 : ∀ i, i < 150 → P2 i = P (i + 10)) : AR c 15 ch2 al2 ar2 P2 V := by
  refine ⟨by omega, fun j hj => ?_⟩
  obtain ⟨k1, s, k2, k3, k4, k5, k6⟩ := h.2 (j + 1) (by omega)
  obtain ⟨b1, b2, b3⟩ := h1 j hj
  have sh : ∀ k, k < 10 → P2 (10 * j + k) = P (10 * (j + 1) + k) := fun k hk => by
    rw [h2 _ (by omega)]; congr 1; omega
  refine ⟨fun s' hs' => ?_, s, k2, by rw [b1, k3], by rw [b2, k4, sh s (by omega)], by rw [b3, k5, sh (5 + s) (by omega)], fun s' hs' ne => ?_⟩
  · rw [sh s' (by omega), sh (5 + s') (by omega)]; exact k1 s' hs'
  · have an : ∀ k, k < 10 → AN 15 P2 V (j + 1) k = AN 16 P V (j + 1 + 1) k := fun k hk => by
      unfold AN
      by_cases q : j + 1 < 15
      · rw [if_pos q, if_pos (by omega), h2 _ (by omega)]; congr 1; omega
      · rw [if_neg q, if_neg (by omega)]
    obtain ⟨m1, m2⟩ := k6 s' hs' ne
    rw [sh s' (by omega), sh (5 + s') (by omega), an s' (by omega), an (5 + s') (by omega)]
    exact ⟨m1, m2⟩
/-- an act more -/
theorem AR_push {c a s : Nat} {ch al ar P V L R P2 : Nat → Int32} {n' r' : Int32} (ha : a < 16) (hs : s < c) (hV : SV c L R V) (h : AR c a ch al ar P V) (h1 : ∀ j, j < 10 → P2 (10 * a + j) = V j) (h2 : ∀ i, i < 10 * a → P2 i = P i) : AR c (a + 1) (upd ch a (nI s)) (upd al a (L s)) (upd ar a (R s)) P2 (upd (upd V s n') (5 + s) r') := by
  have hc := hV.1
  refine ⟨by omega, fun j hj => ?_⟩
  by_cases e : j = a
  · subst e
    obtain ⟨o1, o2, o3⟩ := SV_ok hV hs
    refine ⟨fun s' hs' => ?_, s, hs, pk_us, ?_, ?_, fun s' hs' ne => ?_⟩
    · rw [h1 s' (by omega), h1 (5 + s') (by omega)]; exact (SV_ok hV hs').1
    · rw [pk_us, h1 s (by omega), o2]
    · rw [pk_us, h1 (5 + s) (by omega), o3]
    · unfold AN
      rw [if_neg (by omega), if_neg (by omega), h1 s' (by omega), h1 (5 + s') (by omega), pk_un (show s' ≠ 5 + s by omega), pk_un ne, pk_un (show 5 + s' ≠ 5 + s by omega), pk_un (show 5 + s' ≠ s by omega)]
      exact ⟨rfl, rfl⟩
  · have hja : j < a := by omega
    obtain ⟨k1, t, k2, k3, k4, k5, k6⟩ := h.2 j hja
    have sm : ∀ k, k < 10 → P2 (10 * j + k) = P (10 * j + k) := fun k hk => h2 _ (by omega)
    have an : ∀ k, k < 10 → AN (a + 1) P2 (upd (upd V s n') (5 + s) r') (j + 1) k = AN a P V (j + 1) k := fun k hk => by
      unfold AN
      rw [if_pos (by omega)]
      by_cases q : j + 1 < a
      · rw [if_pos q, h2 _ (by omega)]
      · rw [if_neg q, show j + 1 = a by omega, h1 k hk]
    refine ⟨fun s' hs' => ?_, t, k2, by rw [pk_un e, k3], by rw [pk_un e, k4, sm t (by omega)], by rw [pk_un e, k5, sm (5 + t) (by omega)], fun s' hs' ne => ?_⟩
    · rw [sm s' (by omega), sm (5 + s') (by omega)]; exact k1 s' hs'
    · rw [sm s' (by omega), sm (5 + s') (by omega), an s' (by omega), an (5 + s') (by omega)]
      exact k6 s' hs' ne
/-- both programs' change of a stack -/
theorem q_change {c a s : Nat} {ch al ar P V L R : Nat → Int32} {n' r' : Int32} (hs : s < c) (hV : SV c L R V) (h : AR c a ch al ar P V) (ok : OKr n' r') : ∃ (a' : Nat) (ch' al' ar' P' : Nat → Int32), AR c a' ch' al' ar' P' (upd (upd V s n') (5 + s) r') ∧
    f_X11_change (nI s) r' n' (nI a) ch al ar L R = some (nI a', ch', al', ar', upd L s n', upd R s r') ∧ ∀ b d, f_X13_becomes (nI s) n' r' (nI a) b d P V = some (r', nI a', 0, -1, P', upd (upd V s n') (5 + s) r') := by
  have hc := hV.1
  have s5 : s < 5 := by omega
  have ha := h.1
  have i5 : (5 : Int32) + nI s = nI (5 + s) := nI_add 5 s
  have rest : ∀ (b d A' : Int32) (P' : Nat → Int32), f_X13_remembers (nI a) P V = some (A', P') → f_X13_becomes (nI s) n' r' (nI a) b d P V = some (r', A', 0, -1, P', upd (upd V s n') (5 + s) r') := fun b d A' P' e => by
    rw [f_X13_becomes, e, bd_s, gd_t _ (nI_in (by omega) (by omega)), lt_q, i5, gd_t _ (nI_in (by omega) (by omega)), lt_q, f_X13_good, bd_s, nI_clamp (by omega), nI_clamp (by omega)]
  by_cases q : a < 16
  · have z16 : ¬ nI a = (16 : Int32) := fun z => by have := (nI_eq (b := 16) (by omega) (by omega)).mp z; omega
    obtain ⟨P2, e1, e2, e3⟩ := x13_rem_51 (P := P) (V := V) q kFU 0 P (Nat.zero_le _) (by unfold kFU; omega) (fun j hj => absurd hj (Nat.not_lt_zero _)) (fun _ _ => rfl)
    refine ⟨a + 1, upd ch a (nI s), upd al a (L s), upd ar a (R s), P2, AR_push q hs hV h e2 e3, ?_, fun b d => rest b d _ _ ?_⟩
    · rw [f_X11_change, x9_row s5, bd_s, x9_steps s5, bd_s, f_X0_keep, if_pos (show nI a < (16 : Int32) from nI_lt (b := 16) q (by omega)), f_X0_keep_13, x11_set (by omega) q, bd_s, x11_set (by omega) q, bd_s, x11_set (by omega) q, bd_s, lt_q, bd_s, x9_put s5, bd_s, nI_1]
    · rw [f_X13_remembers, if_neg z16, f_X13_remembers_49]
      exact e1
  · have e16 : a = 16 := by omega
    subst e16
    obtain ⟨ch2, al2, ar2, f1, f2⟩ := x0_forget_2 (K := nI 16) (ch := ch) (al := al) (ar := ar) kFU 1 ch al ar (by omega) (by omega) (by unfold kFU; omega) (fun j hj => by omega) (fun _ _ => ⟨rfl, rfl, rfl⟩)
    obtain ⟨P1, g1, g2⟩ := x13_rem_11 (A' := nI 16) (P := P) (V := V) kFU 0 P (by omega) (by unfold kFU; omega) (fun i hi => absurd hi (Nat.not_lt_zero _)) (fun _ _ => rfl)
    have h15 := AR_shift hc h f2 g1
    obtain ⟨P2, e1, e2, e3⟩ := x13_rem_51 (a := 15) (P := P1) (V := V) (by omega) kFU 0 P1 (Nat.zero_le _) (by unfold kFU; omega) (fun j hj => absurd hj (Nat.not_lt_zero _)) (fun _ _ => rfl)
    refine ⟨16, upd ch2 15 (nI s), upd al2 15 (L s), upd ar2 15 (R s), P2, AR_push (a := 15) (by omega) hs hV h15 e2 e3, ?_, fun b d => rest b d _ _ ?_⟩
    · rw [f_X11_change, x9_row s5, bd_s, x9_steps s5, bd_s, f_X0_keep, if_neg (show ¬ nI 16 < (16 : Int32) by decide), f_X0_forgetFirst, show (1 : Int32) = nI 1 from rfl, f1, bd_s, f_X0_keep_13, show (15 : Int32) = nI 15 from rfl, x11_set (by omega) (by omega), bd_s, x11_set (by omega) (by omega), bd_s, x11_set (by omega) (by omega), bd_s, lt_q, bd_s, x9_put s5, bd_s]
      rfl
    · rw [f_X13_remembers, if_pos (show nI 16 = (16 : Int32) from rfl), show (0 : Int32) = nI 0 from rfl, g2, f_X13_remembers_49, show nI 16 - (1 : Int32) = nI 15 from rfl]
      exact e1
theorem q_slip {c a : Nat} {ch al ar P L R V : Nat → Int32} (h : SV c L R V) (hA : AR c a ch al ar P V) (p w t b d e : Int32) : ∃ (x y : Int32) (a' : Nat) (ch' al' ar' P' L' R' V' : Nat → Int32), y ≠ 4 ∧ SV c L' R' V' ∧ AR c a' ch' al' ar' P' V' ∧ f_X11_slip p w t (nI a) (nI c) ch al ar L R = some (x, y, nI a', ch', al', ar', L', R') ∧ f_X13_slip p w (nI a) b d e (nI c) P V = some (x, nI a', 0, y, -1, P', V') := by
  rcases q_sv h p with ⟨s, n, r, hs, hs5, h1, h2, hr, rfl, -, -, e1, e2, e3, e4, e5, e6⟩ | ⟨e1, e2⟩
  · have h1' : 1 ≤ n := by omega
    rcases q_in 0 (n - 1) 0 (nI n - 1) (nI n) rfl (nI_m1 h1') (by rw [Nat.sub_add_cancel h1']) (by omega) (by omega) w with ⟨k, -, hk, rfl, g1, -, -, g2, -, e7⟩ | ⟨g, e7⟩
    · have ok : OKr (nI n) (nI (rF n r k)) := ⟨n, rF n r k, h1, h2, rF_lt h1' hr, rfl, rfl⟩
      obtain ⟨a', ch', al', ar', P', k1, k2, k3⟩ := q_change hs h hA ok
      have z : nI r ^^^ nI (2 ^ (n - 1 - k)) = nI (rF n r k) := nI_xor _ _
      refine ⟨nI (rF n r k), 0, a', ch', al', ar', P', _, _, _, by decide, SV_put h hs ok, k1, ?_, ?_⟩
      · rw [f_X11_slip, e1, bd_s, if_pos rfl, e4, bd_s, if_neg g1, if_pos g2, e3, bd_s, x8_bit h2 (show k < n by omega), bd_s, z, k2, bd_s]; dsimp only; rw [x9_row hs5, pk_us, bd_s, f_X11_granted, bd_s]
      · rw [f_X13_slip, e2, bd_s, if_neg (by decide), e6, bd_s, e7, bd_s, if_neg (by decide), bd_s, e5, bd_s, bd_s, x13_slipped h2 (show k < n by omega), bd_s, k3, bd_s]
    · refine ⟨-1, 2, a, ch, al, ar, P, L, R, V, by decide, h, hA, ?_, ?_⟩
      · rcases g with g | ⟨g, -, -, g', -⟩
        · rw [f_X11_slip, e1, bd_s, if_pos rfl, e4, bd_s, if_pos g, f_X11_slip_33, f_X11_refused, bd_s]
        · rw [f_X11_slip, e1, bd_s, if_pos rfl, e4, bd_s, if_neg g, if_neg g', f_X11_slip_33, f_X11_refused, bd_s]
      · rw [f_X13_slip, e2, bd_s, if_neg (by decide), e6, bd_s, e7, bd_s, if_pos rfl, f_X13_refused, bd_s]
  · refine ⟨-1, 1, a, ch, al, ar, P, L, R, V, by decide, h, hA, ?_, ?_⟩
    · rw [f_X11_slip, e1, bd_s, if_neg (by decide), f_X11_refused, bd_s]
    · rw [f_X13_slip, e2, bd_s, if_pos rfl, f_X13_refused, bd_s]
theorem q_turn {c a : Nat} {ch al ar P L R V : Nat → Int32} (h : SV c L R V) (hA : AR c a ch al ar P V) (p t b d e : Int32) : ∃ (x y : Int32) (a' : Nat) (ch' al' ar' P' L' R' V' : Nat → Int32), y ≠ 4 ∧ SV c L' R' V' ∧ AR c a' ch' al' ar' P' V' ∧ f_X11_turn p t (nI a) (nI c) ch al ar L R = some (x, y, nI a', ch', al', ar', L', R') ∧ f_X13_turn p (nI a) b d e (nI c) P V = some (x, nI a', 0, y, -1, P', V') := by
  rcases q_sv h p with ⟨s, n, r, hs, hs5, h1, h2, hr, rfl, -, -, e1, e2, e3, e4, e5, e6⟩ | ⟨e1, e2⟩
  · have h1' : 1 ≤ n := by omega
    have ok : OKr (nI n) (nI (rT n r)) := ⟨n, rT n r, h1, h2, rT_lt h1' h2 hr, rfl, rfl⟩
    obtain ⟨a', ch', al', ar', P', k1, k2, k3⟩ := q_change hs h hA ok
    refine ⟨nI (rT n r), 0, a', ch', al', ar', P', _, _, _, by decide, SV_put h hs ok, k1, ?_, ?_⟩
    · rw [f_X11_turn, e1, bd_s, if_pos rfl, e4, bd_s, e3, bd_s, x8_turned h1' h2 hr, bd_s, k2, bd_s]; dsimp only; rw [x9_row hs5, pk_us, bd_s, f_X11_granted, bd_s]
    · rw [f_X13_turn, e2, bd_s, if_neg (by decide), e6, bd_s, e5, bd_s, bd_s, x13_turned h1' h2 hr, bd_s, k3, bd_s]
  · refine ⟨-1, 1, a, ch, al, ar, P, L, R, V, by decide, h, hA, ?_, ?_⟩
    · rw [f_X11_turn, e1, bd_s, if_neg (by decide), f_X11_refused, bd_s]
    · rw [f_X13_turn, e2, bd_s, if_pos rfl, f_X13_refused, bd_s]
theorem q_twin {c a : Nat} {ch al ar P L R V : Nat → Int32} (h : SV c L R V) (hA : AR c a ch al ar P V) (p t b d e : Int32) : ∃ (x y : Int32) (a' : Nat) (ch' al' ar' P' L' R' V' : Nat → Int32), y ≠ 4 ∧ SV c L' R' V' ∧ AR c a' ch' al' ar' P' V' ∧ f_X11_twin p t (nI a) (nI c) ch al ar L R = some (x, y, nI a', ch', al', ar', L', R') ∧ f_X13_twin p (nI a) b d e (nI c) P V = some (x, nI a', 0, y, -1, P', V') := by
  rcases q_sv h p with ⟨s, n, r, hs, hs5, h1, h2, hr, rfl, -, -, e1, e2, e3, e4, e5, e6⟩ | ⟨e1, e2⟩
  · have h1' : 1 ≤ n := by omega
    have ok : OKr (nI n) (nI (rW n r)) := ⟨n, rW n r, h1, h2, rW_lt hr, rfl, rfl⟩
    obtain ⟨a', ch', al', ar', P', k1, k2, k3⟩ := q_change hs h hA ok
    refine ⟨nI (rW n r), 0, a', ch', al', ar', P', _, _, _, by decide, SV_put h hs ok, k1, ?_, ?_⟩
    · rw [f_X11_twin, e1, bd_s, if_pos rfl, e4, bd_s, e3, bd_s, x8_twinned h1' h2 hr, bd_s, k2, bd_s]; dsimp only; rw [x9_row hs5, pk_us, bd_s, f_X11_granted, bd_s]
    · rw [f_X13_twin, e2, bd_s, if_neg (by decide), e6, bd_s, bd_s, x13_all h2, bd_s, e5, bd_s, x13_not h1' h2 hr, k3, bd_s]
  · refine ⟨-1, 1, a, ch, al, ar, P, L, R, V, by decide, h, hA, ?_, ?_⟩
    · rw [f_X11_twin, e1, bd_s, if_neg (by decide), f_X11_refused, bd_s]
    · rw [f_X13_twin, e2, bd_s, if_pos rfl, f_X13_refused, bd_s]
theorem q_grow {c a : Nat} {ch al ar P L R V : Nat → Int32} (h : SV c L R V) (hA : AR c a ch al ar P V) (p w t b d e : Int32) : ∃ (x y : Int32) (a' : Nat) (ch' al' ar' P' L' R' V' : Nat → Int32), y ≠ 4 ∧ SV c L' R' V' ∧ AR c a' ch' al' ar' P' V' ∧ f_X11_grow p w t (nI a) (nI c) ch al ar L R = some (x, y, nI a', ch', al', ar', L', R') ∧ f_X13_grow p w (nI a) b d e (nI c) P V = some (x, nI a', 0, y, -1, P', V') := by
  rcases q_sv h p with ⟨s, n, r, hs, hs5, h1, h2, hr, rfl, -, -, e1, e2, e3, e4, e5, e6⟩ | ⟨e1, e2⟩
  · have h1' : 1 ≤ n := by omega
    have hc := h.1
    by_cases q : n = 12
    · have z1 : ¬ nI n < (12 : Int32) := nI_nlt (b := 12) (by omega) (by omega)
      have z2 : nI n = (12 : Int32) := by rw [q]; rfl
      refine ⟨-1, 3, a, ch, al, ar, P, L, R, V, by decide, h, hA, ?_, ?_⟩
      · rw [f_X11_grow, e1, bd_s, if_pos rfl, e4, bd_s, if_neg z1, f_X11_refused, bd_s]
      · rw [f_X13_grow, e2, bd_s, if_neg (by decide), e6, bd_s, if_pos z2, f_X13_refused, bd_s]
    · have z1 : nI n < (12 : Int32) := nI_lt (b := 12) (by omega) (by omega)
      have z2 : ¬ nI n = (12 : Int32) := fun z => q ((nI_eq (b := 12) (by omega) (by omega)).mp z)
      have key : ∀ u : Nat, u < 2 → ∃ (a' : Nat) (ch' al' ar' P' L' R' V' : Nat → Int32), SV c L' R' V' ∧ AR c a' ch' al' ar' P' V' ∧ f_X11_grow_58 (nI n) (nI s) (nI r * 2) (nI u) t (nI a) (nI c) ch al ar L R = some (nI (n + 1), 0, nI a', ch', al', ar', L', R') ∧ f_X13_grow_60 (nI s) (nI s) (nI n + 1) (2 * nI r) (nI u) (nI a) 0 d e (nI c) P V = some (nI (n + 1), nI a', 0, 0, -1, P', V') := fun u hu => by
        have ok : OKr (nI (n + 1)) (nI (2 * r + u)) := ⟨n + 1, 2 * r + u, by omega, by omega, by rw [Nat.pow_succ]; omega, rfl, rfl⟩
        obtain ⟨a', ch', al', ar', P', k1, k2, k3⟩ := q_change hs h hA ok
        refine ⟨a', ch', al', ar', P', _, _, _, SV_put h hs ok, k1, ?_, ?_⟩
        · rw [f_X11_grow_58, nI_1, show (2 : Int32) = nI 2 from rfl, pk_mul, nI_add, Nat.mul_comm r 2, k2, bd_s, f_X11_granted, bd_s]
        · rw [f_X13_grow_60, nI_1, show (2 : Int32) = nI 2 from rfl, pk_mul, nI_add, k3, bd_s]; dsimp only; rw [x13_steps hs5, pk_un (show s ≠ 5 + s by omega), pk_us, bd_s, f_X13_good, bd_s]
      by_cases y : w = 0
      · obtain ⟨a', ch', al', ar', P', L', R', V', k1, k2, k3, k4⟩ := key 0 (by omega)
        refine ⟨nI (n + 1), 0, a', ch', al', ar', P', L', R', V', by decide, k1, k2, ?_, ?_⟩
        · rw [f_X11_grow, e1, bd_s, if_pos rfl, e4, bd_s, if_pos z1, e3, bd_s, if_pos y]; exact k3
        · rw [f_X13_grow, e2, bd_s, if_neg (by decide), e6, bd_s, if_neg z2, bd_s, e5, bd_s, if_pos y]; exact k4
      · obtain ⟨a', ch', al', ar', P', L', R', V', k1, k2, k3, k4⟩ := key 1 (by omega)
        refine ⟨nI (n + 1), 0, a', ch', al', ar', P', L', R', V', by decide, k1, k2, ?_, ?_⟩
        · rw [f_X11_grow, e1, bd_s, if_pos rfl, e4, bd_s, if_pos z1, e3, bd_s, if_neg y]; exact k3
        · rw [f_X13_grow, e2, bd_s, if_neg (by decide), e6, bd_s, if_neg z2, bd_s, e5, bd_s, if_neg y]; exact k4
  · refine ⟨-1, 1, a, ch, al, ar, P, L, R, V, by decide, h, hA, ?_, ?_⟩
    · rw [f_X11_grow, e1, bd_s, if_neg (by decide), f_X11_refused, bd_s]
    · rw [f_X13_grow, e2, bd_s, if_pos rfl, f_X13_refused, bd_s]
theorem q_cut {c a : Nat} {ch al ar P L R V : Nat → Int32} (h : SV c L R V) (hA : AR c a ch al ar P V) (p t b d e : Int32) : ∃ (x y : Int32) (a' : Nat) (ch' al' ar' P' L' R' V' : Nat → Int32), y ≠ 4 ∧ SV c L' R' V' ∧ AR c a' ch' al' ar' P' V' ∧ f_X11_cut p t (nI a) (nI c) ch al ar L R = some (x, y, nI a', ch', al', ar', L', R') ∧ f_X13_cut p (nI a) b d e (nI c) P V = some (x, nI a', 0, y, -1, P', V') := by
  rcases q_sv h p with ⟨s, n, r, hs, hs5, h1, h2, hr, rfl, -, -, e1, e2, e3, e4, e5, e6⟩ | ⟨e1, e2⟩
  · have h1' : 1 ≤ n := by omega
    have hc := h.1
    have r4 := r4096 h2 hr
    by_cases q : n = 2
    · have z1 : ¬ (2 : Int32) < nI n := nI_nlt (a := 2) (by omega) (by omega)
      have z2 : nI n = (2 : Int32) := by rw [q]; rfl
      refine ⟨-1, 5, a, ch, al, ar, P, L, R, V, by decide, h, hA, ?_, ?_⟩
      · rw [f_X11_cut, e1, bd_s, if_pos rfl, e4, bd_s, if_neg z1, f_X11_refused, bd_s]
      · rw [f_X13_cut, e2, bd_s, if_neg (by decide), e6, bd_s, if_pos z2, f_X13_refused, bd_s]
    · have z1 : (2 : Int32) < nI n := nI_lt (a := 2) (by omega) (by omega)
      have z2 : ¬ nI n = (2 : Int32) := fun z => q ((nI_eq (b := 2) (by omega) (by omega)).mp z)
      have hr2 : r / 2 < 2 ^ (n - 1) := by
        have e : 2 ^ n = 2 ^ (n - 1) * 2 := by rw [← Nat.pow_succ, show (n - 1).succ = n by omega]
        omega
      have ok : OKr (nI (n - 1)) (nI (r / 2)) := ⟨n - 1, r / 2, by omega, by omega, hr2, rfl, rfl⟩
      obtain ⟨a', ch', al', ar', P', k1, k2, k3⟩ := q_change hs h hA ok
      have sh : nI r >>> ((1 : Int32) &&& 31) = nI (r / 2) := pk_shrN (by omega) _ 1 (by decide)
      have dv : nI r / (2 : Int32) = nI (r / 2) := pk_div (d := 2) (by omega) (by omega) (by omega)
      refine ⟨nI (n - 1), 0, a', ch', al', ar', P', _, _, _, by decide, SV_put h hs ok, k1, ?_, ?_⟩
      · rw [f_X11_cut, e1, bd_s, if_pos rfl, e4, bd_s, if_pos z1, e3, bd_s, sh, nI_m1 h1', k2, bd_s, f_X11_granted, bd_s]
      · rw [f_X13_cut, e2, bd_s, if_neg (by decide), e6, bd_s, if_neg z2, bd_s, e5, bd_s, dv, nI_m1 h1', k3, bd_s]; dsimp only; rw [x13_steps hs5, pk_un (show s ≠ 5 + s by omega), pk_us, bd_s, f_X13_good, bd_s]
  · refine ⟨-1, 1, a, ch, al, ar, P, L, R, V, by decide, h, hA, ?_, ?_⟩
    · rw [f_X11_cut, e1, bd_s, if_neg (by decide), f_X11_refused, bd_s]
    · rw [f_X13_cut, e2, bd_s, if_pos rfl, f_X13_refused, bd_s]
/-! undo -/
theorem x13_undo_38 {a : Nat} {b d e : Int32} {P : Nat → Int32} (ha : a < 16) : ∀ (f k : Nat) (V' : Nat → Int32), k ≤ 10 → 10 - k < f → (∀ j, j < k → V' j = P (10 * a + j)) →
    ∃ V2, f_X13_undo_38 f (nI k) (nI a) b d e P V' = some (1, nI a, b, 0, -1, V2) ∧ ∀ j, j < 10 → V2 j = P (10 * a + j)
  | 0, _, _, _, h, _ => absurd h (Nat.not_lt_zero _)
  | f + 1, k, V', hk, hf, h1 => by
    rw [f_X13_undo_38]
    by_cases q : 10 ≤ k
    · rw [if_pos (show (10 : Int32) ≤ nI k from (nI_leI (a := 10) (by omega) (by omega)).mpr q), f_X13_granted, f_X13_good, bd_s, bd_s, gd_t _ (Or.inr rfl)]
      exact ⟨V', rfl, fun j hj => h1 j (by omega)⟩
    · have ix : ((10 : Int32) * nI a) + nI k = nI (10 * a + k) := by rw [show (10 : Int32) = nI 10 from rfl, pk_mul, nI_add]
      rw [if_neg (show ¬ (10 : Int32) ≤ nI k from fun z => q ((nI_leI (a := 10) (by omega) (by omega)).mp z)), ix, gd_t _ (nI_in (by omega) (by omega)), lt_q, gd_t _ (nI_in (by omega) (by omega)), lt_q, nI_clamp (by omega), nI_clamp (by omega), nI_1]
      refine x13_undo_38 ha f (k + 1) _ (by omega) (by omega) (fun j hj => ?_)
      by_cases e : j = k
      · rw [e, pk_us]
      · rw [pk_un e]; exact h1 j (by omega)
theorem q_undo {c a : Nat} {ch al ar P L R V : Nat → Int32} (h : SV c L R V) (hA : AR c a ch al ar P V) (t b d e : Int32) : ∃ (x y : Int32) (a' : Nat) (L' R' V' : Nat → Int32), y ≠ 4 ∧ SV c L' R' V' ∧ AR c a' ch al ar P V' ∧ f_X11_undo t (nI a) ch al ar L R = some (x, y, nI a', L', R') ∧ f_X13_undo (nI a) b d e P V = some (x, nI a', 0, y, -1, V') := by
  have hc := h.1
  have ha := hA.1
  by_cases q : a = 0
  · subst q
    refine ⟨0, 6, 0, L, R, V, by decide, h, hA, ?_, ?_⟩
    · rw [f_X11_undo, if_pos nI_0]
    · rw [f_X13_undo, if_pos nI_0, f_X13_undo_19, f_X13_denied, f_X13_refused, bd_s, bd_s, gd_t _ (Or.inl rfl)]
  · obtain ⟨k1, s, k2, k3, k4, k5, k6⟩ := hA.2 (a - 1) (by omega)
    obtain ⟨V2, m1, m2⟩ := x13_undo_38 (a := a - 1) (b := 0) (d := d) (e := e) (P := P) (by omega) kFU 0 V (Nat.zero_le _) (by unfold kFU; omega) (fun j hj => absurd hj (Nat.not_lt_zero _))
    have s5 : s < 5 := by omega
    refine ⟨1, 0, a - 1, upd L s (al (a - 1)), upd R s (ar (a - 1)), V2, by decide, ?_, ?_, ?_, ?_⟩
    · refine SV_mk hc (fun s' hs' => ?_)
      rw [m2 s' (by omega), m2 (5 + s') (by omega)]
      refine ⟨k1 s' hs', ?_⟩
      by_cases z : s' = s
      · subst z
        rw [pk_us, pk_us]
        exact ⟨k4, k5⟩
      · rw [pk_un z, pk_un z]
        obtain ⟨o1, o2⟩ := k6 s' hs' z
        obtain ⟨-, o3, o4⟩ := SV_ok h hs'
        unfold AN at o1 o2
        rw [if_neg (by omega)] at o1 o2
        exact ⟨o3.trans o1.symm, o4.trans o2.symm⟩
    · refine ⟨by omega, fun j hj => ?_⟩
      obtain ⟨i1, s1, i2, i3, i4, i5, i6⟩ := hA.2 j (by omega)
      refine ⟨i1, s1, i2, i3, i4, i5, fun s' hs' ne => ?_⟩
      have an : ∀ k, k < 10 → AN (a - 1) P V2 (j + 1) k = AN a P V (j + 1) k := fun k hk => by
        unfold AN
        rw [if_pos (show j + 1 < a by omega)]
        by_cases z : j + 1 < a - 1
        · rw [if_pos z]
        · rw [if_neg z, m2 k hk, show j + 1 = a - 1 by omega]
      rw [an s' (by omega), an (5 + s') (by omega)]
      exact i6 s' hs' ne
    · rw [f_X11_undo, if_neg (nI_ne0 (by omega) (by omega)), f_X0_takeBack, if_neg (nI_nle (by omega) (by omega)), lt_q, nI_m1 (by omega), x11_at (by omega) (by omega), bd_s, x11_at (by omega) (by omega), bd_s, x11_at (by omega) (by omega), bd_s, k3, x9_put s5, bd_s, bd_s]
    · rw [f_X13_undo, if_neg (nI_ne0 (by omega) (by omega)), lt_q, nI_m1 (by omega)]
      exact m1
/-! images -/
def IR (c i : Nat) (il ir K : Nat → Int32) : Prop := i ≤ 3 ∧ ∀ j, j < i → ∀ s, s < c → OKr (K (10 * j + s)) (K (10 * j + (5 + s))) ∧ il (5 * j + s) = K (10 * j + s) ∧ ir (5 * j + s) = K (10 * j + (5 + s))
theorem x3_keep_2 {i : Nat} {L R il ir : Nat → Int32} (hi : i < 3) : ∀ (f k : Nat) (il' ir' : Nat → Int32), k ≤ 5 → 5 - k < f → (∀ j, j < k → il' (5 * i + j) = L j ∧ ir' (5 * i + j) = R j) → (∀ j, j < 5 * i → il' j = il j ∧ ir' j = ir j) →
    ∃ il2 ir2, f_X3_keep_2 f (nI k) (nI i) L R il' ir' = some (nI i, nI (i + 1), il2, ir2) ∧ (∀ j, j < 5 → il2 (5 * i + j) = L j ∧ ir2 (5 * i + j) = R j) ∧ ∀ j, j < 5 * i → il2 j = il j ∧ ir2 j = ir j
  | 0, _, _, _, _, h, _, _ => absurd h (Nat.not_lt_zero _)
  | f + 1, k, il', ir', hk, hf, h1, h2 => by
    rw [f_X3_keep_2]
    by_cases q : 5 ≤ k
    · rw [if_pos (show (5 : Int32) ≤ nI k from (nI_leI (a := 5) (by omega) (by omega)).mpr q), lt_q, nI_1, nI_pred]
      exact ⟨il', ir', rfl, fun j hj => h1 j (by omega), h2⟩
    · have ix : (nI i * (5 : Int32)) + nI k = nI (5 * i + k) := by rw [show (5 : Int32) = nI 5 from rfl, pk_mul, nI_add, Nat.mul_comm i 5]
      rw [if_neg (show ¬ (5 : Int32) ≤ nI k from fun z => q ((nI_leI (a := 5) (by omega) (by omega)).mp z)), x9_row (by omega), bd_s, ix, x11_set (by omega) (by omega), bd_s, x9_steps (by omega), bd_s, x11_set (by omega) (by omega), bd_s, nI_1]
      refine x3_keep_2 hi f (k + 1) _ _ (by omega) (by omega) (fun j hj => ?_) (fun j hj => ?_)
      · by_cases e : j = k
        · rw [e, pk_us, pk_us]; exact ⟨rfl, rfl⟩
        · rw [pk_un (show 5 * i + j ≠ 5 * i + k by omega), pk_un (show 5 * i + j ≠ 5 * i + k by omega)]; exact h1 j (by omega)
      · rw [pk_un (show j ≠ 5 * i + k by omega), pk_un (show j ≠ 5 * i + k by omega)]; exact h2 j hj
theorem x13_image_34 {i : Nat} {b d e : Int32} {K V : Nat → Int32} (hi : i < 3) : ∀ (f k : Nat) (K' : Nat → Int32), k ≤ 10 → 10 - k < f → (∀ j, j < k → K' (10 * i + j) = V j) → (∀ j, j < 10 * i → K' j = K j) →
    ∃ K2, f_X13_image_34 f (nI k) (nI i) b d e K' V = some (nI i, nI (i + 1), b, 0, -1, K2) ∧ (∀ j, j < 10 → K2 (10 * i + j) = V j) ∧ ∀ j, j < 10 * i → K2 j = K j
  | 0, _, _, _, h, _, _ => absurd h (Nat.not_lt_zero _)
  | f + 1, k, K', hk, hf, h1, h2 => by
    rw [f_X13_image_34]
    by_cases q : 10 ≤ k
    · rw [if_pos (show (10 : Int32) ≤ nI k from (nI_leI (a := 10) (by omega) (by omega)).mpr q), lt_q, nI_1, nI_pred, f_X13_good, bd_s]
      exact ⟨K', rfl, fun j hj => h1 j (by omega), h2⟩
    · have ix : ((10 : Int32) * nI i) + nI k = nI (10 * i + k) := by rw [show (10 : Int32) = nI 10 from rfl, pk_mul, nI_add]
      rw [if_neg (show ¬ (10 : Int32) ≤ nI k from fun z => q ((nI_leI (a := 10) (by omega) (by omega)).mp z)), gd_t _ (nI_in (by omega) (by omega)), lt_q, ix, gd_t _ (nI_in (by omega) (by omega)), lt_q, nI_clamp (by omega), nI_clamp (by omega), nI_1]
      refine x13_image_34 hi f (k + 1) _ (by omega) (by omega) (fun j hj => ?_) (fun j hj => ?_)
      · by_cases z : j = k
        · rw [z, pk_us]
        · rw [pk_un (show 10 * i + j ≠ 10 * i + k by omega)]; exact h1 j (by omega)
      · rw [pk_un (show j ≠ 10 * i + k by omega)]; exact h2 j hj
theorem q_image {c i : Nat} {il ir K L R V : Nat → Int32} (h : SV c L R V) (hI : IR c i il ir K) (t b d e : Int32) : ∃ (x y : Int32) (i' : Nat) (il' ir' K' : Nat → Int32), y ≠ 4 ∧ IR c i' il' ir' K' ∧ f_X11_image t (nI i) 1 il ir L R = some (x, y, nI i', il', ir') ∧ f_X13_image (nI i) b d e K V = some (x, nI i', 0, y, -1, K') := by
  have hc := h.1
  have hi := hI.1
  by_cases q : i = 3
  · subst q
    refine ⟨-1, 3, 3, il, ir, K, by decide, hI, ?_, ?_⟩
    · rw [f_X11_image, if_neg (by decide), if_neg (by decide), f_X11_refused, bd_s]
    · rw [f_X13_image, if_pos (show nI 3 = (3 : Int32) from rfl), f_X13_refused, bd_s]
  · obtain ⟨il2, ir2, a1, a2, a3⟩ := x3_keep_2 (L := L) (R := R) (il := il) (ir := ir) (show i < 3 by omega) kFU 0 il ir (Nat.zero_le _) (by unfold kFU; omega) (fun j hj => absurd hj (Nat.not_lt_zero _)) (fun _ _ => ⟨rfl, rfl⟩)
    obtain ⟨K2, b1, b2, b3⟩ := x13_image_34 (b := 0) (d := d) (e := e) (K := K) (V := V) (show i < 3 by omega) kFU 0 K (Nat.zero_le _) (by unfold kFU; omega) (fun j hj => absurd hj (Nat.not_lt_zero _)) (fun _ _ => rfl)
    refine ⟨nI i, 0, i + 1, il2, ir2, K2, by decide, ⟨by omega, fun j hj s hs => ?_⟩, ?_, ?_⟩
    · by_cases z : j = i
      · subst z
        obtain ⟨o1, o2⟩ := a2 s (by omega)
        rw [o1, o2, b2 s (by omega), b2 (5 + s) (by omega)]
        exact SV_ok h hs
      · obtain ⟨o1, o2⟩ := a3 (5 * j + s) (by omega)
        rw [o1, o2, b3 (10 * j + s) (by omega), b3 (10 * j + (5 + s)) (by omega)]
        exact hI.2 j (by omega) s hs
    · have z3 : nI i < (3 : Int32) := nI_lt (b := 3) (by omega) (by omega)
      rw [f_X11_image, if_neg (by decide), if_pos z3, f_X3_keep, show (0 : Int32) = nI 0 from rfl, a1, bd_s, f_X11_granted, bd_s]; rfl
    · have z3 : ¬ nI i = (3 : Int32) := fun z => q ((nI_eq (b := 3) (by omega) (by omega)).mp z)
      rw [f_X13_image, if_neg z3]
      exact b1
theorem x3_bring_2 {i : Nat} {L R il ir : Nat → Int32} (hi : i < 3) : ∀ (f k : Nat) (L' R' : Nat → Int32), k ≤ 5 → 5 - k < f → (∀ j, j < k → L' j = il (5 * i + j) ∧ R' j = ir (5 * i + j)) →
    ∃ L2 R2, f_X3_bring_2 f (nI i) (nI k) L' R' il ir = some (L2, R2) ∧ ∀ j, j < 5 → L2 j = il (5 * i + j) ∧ R2 j = ir (5 * i + j)
  | 0, _, _, _, _, h, _ => absurd h (Nat.not_lt_zero _)
  | f + 1, k, L', R', hk, hf, h1 => by
    rw [f_X3_bring_2]
    by_cases q : 5 ≤ k
    · rw [if_pos (show (5 : Int32) ≤ nI k from (nI_leI (a := 5) (by omega) (by omega)).mpr q)]
      exact ⟨L', R', rfl, fun j hj => h1 j (by omega)⟩
    · have ix : (nI i * (5 : Int32)) + nI k = nI (5 * i + k) := by rw [show (5 : Int32) = nI 5 from rfl, pk_mul, nI_add, Nat.mul_comm i 5]
      rw [if_neg (show ¬ (5 : Int32) ≤ nI k from fun z => q ((nI_leI (a := 5) (by omega) (by omega)).mp z)), ix, x11_at (by omega) (by omega), bd_s, x11_at (by omega) (by omega), bd_s, x9_put (by omega), bd_s, nI_1]
      refine x3_bring_2 (L := L) (R := R) hi f (k + 1) _ _ (by omega) (by omega) (fun j hj => ?_)
      dsimp only
      by_cases e : j = k
      · rw [e, pk_us, pk_us]; exact ⟨rfl, rfl⟩
      · rw [pk_un e, pk_un e]; exact h1 j (by omega)
theorem x13_back_32 {i : Nat} {a b c d e : Int32} {K : Nat → Int32} (hi : i < 3) : ∀ (f k : Nat) (V' : Nat → Int32), k ≤ 10 → 10 - k < f → (∀ j, j < k → V' j = K (10 * i + j)) →
    ∃ V2, f_X13_back_32 f (nI i) (nI k) a b c d e K V' = some (1, 0, c, 0, -1, V2) ∧ ∀ j, j < 10 → V2 j = K (10 * i + j)
  | 0, _, _, _, h, _ => absurd h (Nat.not_lt_zero _)
  | f + 1, k, V', hk, hf, h1 => by
    rw [f_X13_back_32]
    by_cases q : 10 ≤ k
    · rw [if_pos (show (10 : Int32) ≤ nI k from (nI_leI (a := 10) (by omega) (by omega)).mpr q), f_X13_granted, f_X13_good, bd_s, bd_s, gd_t _ (Or.inr rfl)]
      exact ⟨V', rfl, fun j hj => h1 j (by omega)⟩
    · have ix : ((10 : Int32) * nI i) + nI k = nI (10 * i + k) := by rw [show (10 : Int32) = nI 10 from rfl, pk_mul, nI_add]
      rw [if_neg (show ¬ (10 : Int32) ≤ nI k from fun z => q ((nI_leI (a := 10) (by omega) (by omega)).mp z)), ix, gd_t _ (nI_in (by omega) (by omega)), lt_q, gd_t _ (nI_in (by omega) (by omega)), lt_q, nI_clamp (by omega), nI_clamp (by omega), nI_1]
      refine x13_back_32 hi f (k + 1) _ (by omega) (by omega) (fun j hj => ?_)
      by_cases z : j = k
      · rw [z, pk_us]
      · rw [pk_un z]; exact h1 j (by omega)
theorem q_back {c a i : Nat} {ch al ar P il ir K L R V : Nat → Int32} (h : SV c L R V) (hA : AR c a ch al ar P V) (hI : IR c i il ir K) (p t b d e : Int32) : ∃ (x y : Int32) (a' : Nat) (L' R' V' : Nat → Int32), y ≠ 4 ∧ SV c L' R' V' ∧ AR c a' ch al ar P V' ∧ f_X11_back p t (nI a) (nI i) il ir L R = some (x, y, nI a', L', R') ∧ f_X13_back p (nI a) (nI i) b d e K V = some (x, nI a', 0, y, -1, V') := by
  have hc := h.1
  have hi := hI.1
  have bad1 : f_X11_back_15 t (nI a) (nI i) il ir L R = some (0, 1, nI a, L, R) := rfl
  have bad2 : f_X13_back_24 (nI a) (nI i) 0 d e K V = some (0, nI a, 0, 1, -1, V) := by
    rw [f_X13_back_24, f_X13_denied, f_X13_refused, bd_s, bd_s, gd_t _ (Or.inl rfl)]
  by_cases q : p < 0
  · exact ⟨0, 1, a, L, R, V, by decide, h, hA, by rw [f_X11_back, if_pos q, bad1], by rw [f_X13_back, if_pos q, bad2]⟩
  · by_cases q2 : p < nI i
    · obtain ⟨j, hj, rfl⟩ := nI_of q
      have hji : j < i := (nI_ltI hj (by omega)).mp q2
      obtain ⟨L2, R2, a1, a2⟩ := x3_bring_2 (L := L) (R := R) (il := il) (ir := ir) (show j < 3 by omega) kFU 0 L R (Nat.zero_le _) (by unfold kFU; omega) (fun k hk => absurd hk (Nat.not_lt_zero _))
      obtain ⟨V2, b1, b2⟩ := x13_back_32 (a := nI a) (b := nI i) (c := 0) (d := d) (e := e) (K := K) (show j < 3 by omega) kFU 0 V (Nat.zero_le _) (by unfold kFU; omega) (fun k hk => absurd hk (Nat.not_lt_zero _))
      refine ⟨1, 0, 0, L2, R2, V2, by decide, ?_, ⟨by omega, fun k hk => absurd hk (Nat.not_lt_zero _)⟩, ?_, ?_⟩
      · refine SV_mk hc (fun s hs => ?_)
        obtain ⟨o1, o2⟩ := a2 s (by omega)
        rw [o1, o2, b2 s (by omega), b2 (5 + s) (by omega)]
        exact hI.2 j hji s hs
      · rw [f_X11_back, if_neg q, if_pos q2, f_X3_bring, show f_X3_bring_2 kFU (nI j) 0 L R il ir = some (L2, R2) from a1, bd_s]; rfl
      · rw [f_X13_back, if_neg q, if_pos q2]
        exact b1
    · exact ⟨0, 1, a, L, R, V, by decide, h, hA, by rw [f_X11_back, if_neg q, if_neg q2, bad1], by rw [f_X13_back, if_neg q, if_neg q2, bad2]⟩
