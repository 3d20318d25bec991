/-! LINES: THE POINTS OF A CIRCLE, COUNTED BY BOTH PROGRAMS -/
theorem nI_subadd {a b c : Nat} (h : b ≤ a + c) : (nI a - nI b) + nI c = nI (a + c - b) := by
  rw [← pk_sub h, ← nI_add]
  grobner
theorem x6_sub_2 {M B : Nat} (h1 : 1 ≤ M) (hM : M ≤ 36) (hB : B ≤ M) {counts : Nat → Int32} : ∀ (f e : Nat) (spare : Nat → Int32), e ≤ M → M - e < f → (∀ j, j < e → spare j = counts ((j + M - B) % M) - counts j) →
    ∃ c', f_X6_subtractTurned_2 f (nI B) (nI M) (nI e) counts spare = some (c', counts) ∧ ∀ j, j < M → c' j = counts ((j + M - B) % M) - counts j
  | 0, _, _, _, h, _ => absurd h (Nat.not_lt_zero _)
  | f + 1, e, spare, he, hf, hw => by
    rw [f_X6_subtractTurned_2]
    by_cases q : M ≤ e
    · rw [if_pos ((nI_leI (by omega) (by omega)).mpr q)]
      exact ⟨spare, rfl, fun j hj => hw j (by omega)⟩
    · have m := Nat.mod_lt (e + M - B) h1
      have go := x6_sub_2 h1 hM hB f (e + 1) (upd spare e (counts ((e + M - B) % M) - counts e)) (by omega) (by omega) (fun j hj => by
        by_cases z : j = e
        · rw [z, pk_us]
        · rw [pk_un z]; exact hw j (by omega))
      have at1 : ∀ i : Nat, i < 36 → f_X11_at 36 (nI i) counts = some (counts i) := fun i hi => x11_at (by omega) hi
      rw [if_neg (fun z => q ((nI_leI (by omega) (by omega)).mp z))]
      by_cases q2 : e < B
      · rw [if_pos ((nI_ltI (by omega) (by omega)).mpr q2), nI_subadd (by omega), f_X6_subtractTurned_23, at1 _ (by omega), bd_s, at1 _ (by omega), bd_s, x11_set (by omega) (by omega), bd_s, nI_1]
        rw [Nat.mod_eq_of_lt (show e + M - B < M by omega)] at go
        exact go
      · rw [if_neg (fun z => q2 ((nI_ltI (by omega) (by omega)).mp z)), pk_sub (by omega), f_X6_subtractTurned_23, at1 _ (by omega), bd_s, at1 _ (by omega), bd_s, x11_set (by omega) (by omega), bd_s, nI_1]
        rw [show e + M - B = (e - B) + M by omega, Nat.add_mod_right, Nat.mod_eq_of_lt (show e - B < M by omega)] at go
        exact go
theorem x6_sub {M B : Nat} (h1 : 1 ≤ M) (hM : M ≤ 36) (hB : B ≤ M) (counts spare : Nat → Int32) : ∃ c', f_X6_subtractTurned (nI B) (nI M) counts spare = some (c', counts) ∧ ∀ j, j < M → c' j = counts ((j + M - B) % M) - counts j :=
  x6_sub_2 h1 hM hB kFU 0 spare (Nat.zero_le _) (by unfold kFU; omega) (fun j hj => absurd hj (Nat.not_lt_zero _))
def JR (G M : Nat) (counts part : Nat → Int32) : Prop := ((∀ e, e < M → part (G * e) = counts e) ∨ (∀ e, e < M → part (G * e) = -(counts e))) ∧ ∀ k, k < G * M → k % G ≠ 0 → part k = 0
theorem JR_step {G M b : Nat} {c p c' p' : Nat → Int32} (hG : 1 ≤ G) (h1 : 1 ≤ M) (hb : b ≤ M) (h : JR G M c p) (hc : ∀ j, j < M → c' j = c ((j + M - b) % M) - c j) (hp : ∀ j, j < G * M → p' j = p j - p ((j + G * M - G * b) % (G * M))) : JR G M c' p' := by
  have le : ∀ e, e < M → G * e < G * M := fun e he => Nat.mul_lt_mul_of_pos_left he hG
  have ix : ∀ e, e < M → (G * e + G * M - G * b) % (G * M) = G * ((e + M - b) % M) := fun e he => by
    rw [← Nat.mul_add, ← Nat.mul_sub, Nat.mul_mod_mul_left]
  have m : ∀ e, (e + M - b) % M < M := fun e => Nat.mod_lt _ h1
  refine ⟨?_, fun k hk hn => ?_⟩
  · rcases h.1 with g | g
    · right
      intro e he
      rw [hp _ (le e he), ix e he, g e he, g _ (m e), hc e he]
      grobner
    · left
      intro e he
      rw [hp _ (le e he), ix e he, g e he, g _ (m e), hc e he]
      grobner
  · have pos : 0 < G * M := Nat.mul_pos hG h1
    have lb : G * b ≤ G * M := Nat.mul_le_mul_left _ hb
    have k2 : (k + G * M - G * b) % (G * M) % G = k % G := by
      rw [Nat.mod_mul_right_mod, show k + G * M - G * b = k + G * (M - b) by rw [Nat.mul_sub]; omega, Nat.add_mul_mod_self_left]
    rw [hp k hk, h.2 k hk hn, h.2 _ (Nat.mod_lt _ pos) (by rw [k2]; exact hn)]
    decide
def cfold (M : Nat) : List Nat → (Nat → Int32) → (Nat → Int32) → Option ((Nat → Int32) × (Nat → Int32))
  | [], c, s => some (c, s)
  | p :: ps, c, s => bd (f_X6_subtractTurned (nI (M / p)) (nI M) c s) fun t => cfold M ps t.1 t.2
theorem x6_isZero_2 {M : Nat} (hM : M ≤ 36) {c : Nat → Int32} : ∀ (f k : Nat), k ≤ M → M - k < f → (∀ j, j < k → c j = 0) →
    ((∀ j, j < M → c j = 0) ∧ f_X6_isZero_2 f (nI M) (nI k) c = some 1) ∨ ((∃ j, j < M ∧ c j ≠ 0) ∧ f_X6_isZero_2 f (nI M) (nI k) c = some 0)
  | 0, _, _, h, _ => absurd h (Nat.not_lt_zero _)
  | f + 1, k, hk, hf, hw => by
    rw [f_X6_isZero_2]
    by_cases q : M ≤ k
    · rw [if_pos ((nI_leI (by omega) (by omega)).mpr q)]
      exact Or.inl ⟨fun j hj => hw j (by omega), rfl⟩
    · rw [if_neg (fun z => q ((nI_leI (by omega) (by omega)).mp z)), x11_at (by omega) (by omega), bd_s]
      by_cases e : c k = 0
      · rw [if_pos e, nI_1]
        exact x6_isZero_2 hM f (k + 1) (by omega) (by omega) (fun j hj => by
          by_cases z : j = k
          · rw [z]; exact e
          · exact hw j (by omega))
      · rw [if_neg e]
        exact Or.inr ⟨⟨k, by omega, e⟩, rfl⟩
theorem JR_zero {G M : Nat} {c w : Nat → Int32} (hG : 1 ≤ G) (h : JR G M c w) : (∀ e, e < M → c e = 0) ↔ (∀ k, k < G * M → w k = 0) := by
  have key : ∀ e, e < M → (w (G * e) = 0 ↔ c e = 0) := fun e he => by
    rcases h.1 with g | g
    · rw [g e he]
    · rw [g e he]
      constructor
      · intro z
        grobner
      · intro z
        rw [z]; decide
  constructor
  · intro a k hk
    by_cases q : k % G = 0
    · have e : k = G * (k / G) := by
        have := Nat.mod_add_div k G
        omega
      have lt : k / G < M := Nat.div_lt_of_lt_mul hk
      rw [e]
      exact (key _ lt).mpr (a _ lt)
    · exact h.2 k hk q
  · intro a e he
    exact (key e he).mp (a _ (Nat.mul_lt_mul_of_pos_left he hG))
/-! THE PRIMES -/
def cl (M : Nat) : List Nat := (if M % 2 = 0 then [2] else []) ++ ((if M % 3 = 0 then [3] else []) ++ ((if M % 5 = 0 then [5] else []) ++ ((if M % 7 = 0 then [7] else []) ++ (if M % 11 = 0 then [11] else []))))
theorem cl_one {M q p : Nat} (hq : 1 ≤ q) (h : p ∈ (if M % q = 0 then [q] else [])) : 1 ≤ p ∧ M % p = 0 := by
  by_cases z : M % q = 0
  · rw [if_pos z, List.mem_singleton] at h
    rw [h]; exact ⟨hq, z⟩
  · rw [if_neg z] at h
    exact absurd h List.not_mem_nil
theorem cl_mem {M p : Nat} (h : p ∈ cl M) : 1 ≤ p ∧ M % p = 0 := by
  unfold cl at h
  rw [List.mem_append, List.mem_append, List.mem_append, List.mem_append] at h
  rcases h with h | h | h | h | h
  · exact cl_one (by decide) h
  · exact cl_one (by decide) h
  · exact cl_one (by decide) h
  · exact cl_one (by decide) h
  · exact cl_one (by decide) h
def stp : Nat → Nat → Nat → Nat
  | 0, x, _ => x
  | g + 1, x, p => if x % p = 0 then stp g (x / p) p else x
def pl : Nat → Nat → Nat → List Nat
  | 0, _, _ => []
  | g + 1, x, p => if x < p then [] else if x % p = 0 then p :: pl g (stp 200 x p) (p + 1) else pl g x (p + 1)
theorem stp_le (p : Nat) : ∀ g x, stp g x p ≤ x
  | 0, x => Nat.le_refl _
  | g + 1, x => by
    unfold stp
    split
    · exact Nat.le_trans (stp_le p g _) (Nat.div_le_self _ _)
    · exact Nat.le_refl _
theorem stp_pos {p : Nat} : ∀ g x, 1 ≤ x → 1 ≤ stp g x p
  | 0, x, h => h
  | g + 1, x, h => by
    unfold stp
    by_cases q : x % p = 0
    · rw [if_pos q]
      refine stp_pos g _ ?_
      have := Nat.mod_add_div x p
      rcases Nat.eq_zero_or_pos (x / p) with z | z
      · rw [z, Nat.mul_zero] at this; omega
      · exact z
    · rw [if_neg q]; exact h
theorem x6_out_66 {M : Nat} {i : Nat} {p : Nat} {f : Nat} {c s : Nat → Int32} (hM1 : 1 ≤ M) (hM : M ≤ 36) (hi : i < 5) (hp : k_prm.getD i 0 = nI p) (hp0 : 1 ≤ p) (hp1 : p < 100) :
    f_X6_goesOut_66 (f + 1) (nI M) (nI i) c s = if M % p = 0 then bd (f_X6_subtractTurned (nI (M / p)) (nI M) c s) fun t => f_X6_goesOut_66 f (nI M) (nI (i + 1)) t.1 t.2 else f_X6_goesOut_66 f (nI M) (nI (i + 1)) c s := by
  have z : ¬ (5 : Int32) ≤ nI i := fun z => by have := (nI_leI (a := 5) (by omega) (by omega)).mp z; omega
  rw [f_X6_goesOut_66, if_neg z, gd_t _ (nI_in (by omega) (by omega)), lt_q, nI_clamp (by omega), hp, if_neg (nI_nle (by omega) (by omega)), gd_t _ (nI_ne0 (by omega) (by omega)), pk_rem (by omega) (by omega) (by omega)]
  by_cases q : M % p = 0
  · rw [q, if_pos nI_0, if_pos rfl, gd_t _ (nI_ne0 (by omega) (by omega)), pk_div (by omega) (by omega) (by omega)]
    simp only [f_X6_goesOut_107, nI_1]
  · have m := Nat.mod_lt M (show 0 < p by omega)
    rw [if_neg (nI_ne0 (by omega) (by omega)), if_neg q, f_X6_goesOut_107, nI_1]
theorem x6_out_66e {M f : Nat} {c s : Nat → Int32} : f_X6_goesOut_66 (f + 1) (nI M) (nI 5) c s = bd (f_X6_isZero (nI M) c) fun t => gd (t = 0 ∨ t = 1) <| some (t, c, s) := by
  rw [f_X6_goesOut_66, if_pos (show (5 : Int32) ≤ nI 5 by decide)]
theorem bd_if {α β : Type} {P : Prop} [Decidable P] (a b : Option α) (k : α → Option β) : bd (if P then a else b) k = if P then bd a k else bd b k := by split <;> rfl
theorem bd_bd {α β γ : Type} (a : Option α) (k : α → Option β) (m : β → Option γ) : bd (bd a k) m = bd a fun t => bd (k t) m := by cases a <;> rfl
theorem cfold_app (M : Nat) : ∀ (a b : List Nat) (c s : Nat → Int32), cfold M (a ++ b) c s = bd (cfold M a c s) fun t => cfold M b t.1 t.2
  | [], _, _, _ => rfl
  | p :: ps, b, c, s => by
    show (bd (f_X6_subtractTurned (nI (M / p)) (nI M) c s) fun t => cfold M (ps ++ b) t.1 t.2) = bd (bd (f_X6_subtractTurned (nI (M / p)) (nI M) c s) fun t => cfold M ps t.1 t.2) fun t => cfold M b t.1 t.2
    rw [bd_bd]
    congr 1
    funext t
    exact cfold_app M ps b t.1 t.2
theorem x6_out_i {M i p f : Nat} {rest : List Nat} (hM1 : 1 ≤ M) (hM : M ≤ 36) (hi : i < 5) (hp : k_prm.getD i 0 = nI p) (hp0 : 1 ≤ p) (hp1 : p < 100)
    (ih : ∀ c s, f_X6_goesOut_66 f (nI M) (nI (i + 1)) c s = bd (cfold M rest c s) fun t => bd (f_X6_isZero (nI M) t.1) fun z => gd (z = 0 ∨ z = 1) <| some (z, t.1, t.2)) (c s : Nat → Int32) :
    f_X6_goesOut_66 (f + 1) (nI M) (nI i) c s = bd (cfold M ((if M % p = 0 then [p] else []) ++ rest) c s) fun t => bd (f_X6_isZero (nI M) t.1) fun z => gd (z = 0 ∨ z = 1) <| some (z, t.1, t.2) := by
  rw [x6_out_66 hM1 hM hi hp hp0 hp1, cfold_app]
  by_cases q : M % p = 0
  · rw [if_pos q, if_pos q, cfold, bd_bd, bd_bd]
    congr 1
    funext t
    rw [cfold, bd_s]
    exact ih t.1 t.2
  · rw [if_neg q, if_neg q, cfold, bd_s]
    exact ih c s
theorem x6_out_0 {M : Nat} (hM1 : 1 ≤ M) (hM : M ≤ 36) (c s : Nat → Int32) : f_X6_goesOut_66 kFU (nI M) 0 c s = bd (cfold M (cl M) c s) fun t => bd (f_X6_isZero (nI M) t.1) fun z => gd (z = 0 ∨ z = 1) <| some (z, t.1, t.2) := by
  rw [cl, show kFU = 99994 + 1 + 1 + 1 + 1 + 1 + 1 from rfl, show (0 : Int32) = nI 0 from rfl]
  refine x6_out_i hM1 hM (by decide) (show _ = nI 2 from rfl) (by decide) (by decide) ?_ c s
  refine x6_out_i hM1 hM (by decide) (show _ = nI 3 from rfl) (by decide) (by decide) ?_
  refine x6_out_i hM1 hM (by decide) (show _ = nI 5 from rfl) (by decide) (by decide) ?_
  refine x6_out_i hM1 hM (by decide) (show _ = nI 7 from rfl) (by decide) (by decide) ?_
  intro c s
  have h := x6_out_i (rest := []) (f := 99994 + 1) hM1 hM (show 4 < 5 by decide) (show _ = nI 11 from rfl) (by decide) (by decide) (fun c s => by rw [x6_out_66e, cfold, bd_s]) c s
  rw [List.append_nil] at h
  exact h
/-! THE POINTS -/
def rCt (ix : Nat → Nat) (e : Nat) : Nat → Nat
  | 0 => 0
  | j + 1 => rCt ix e j + (if ix j = e then 1 else 0)
def rPt (n r : Nat) : Nat := if rRep n r % 3 = 0 then rRep n r else 3 * rRep n r
def rG (n r : Nat) : Nat := if rRep n r % 3 = 0 then 3 else 1
def ixC (n r l j : Nat) : Nat := (rPt n r / rRep n r * l * j + rPt n r / 3 * rLt n r j) % rPt n r
def ixM (n r l j : Nat) : Nat := (3 * j * l + rRep n r * rLt n r j) % (3 * rRep n r)
theorem rG_T (n r : Nat) : rG n r * rPt n r = 3 * rRep n r := by
  unfold rG rPt
  by_cases q : rRep n r % 3 = 0
  · rw [if_pos q, if_pos q]
  · rw [if_neg q, if_neg q, Nat.one_mul]
theorem ix_eq {n r : Nat} (h1 : 1 ≤ n) (l j : Nat) : ixM n r l j = rG n r * ixC n r l j := by
  have p := rRep_pos (n := n) (r := r) h1
  unfold ixM ixC rG rPt
  by_cases q : rRep n r % 3 = 0
  · rw [if_pos q, if_pos q, Nat.div_self p, Nat.one_mul, ← Nat.mul_mod_mul_left]
    congr 1
    obtain ⟨m, hm⟩ : ∃ m, rRep n r = 3 * m := ⟨rRep n r / 3, by omega⟩
    rw [hm, Nat.mul_div_cancel_left m (by decide), Nat.mul_add, Nat.mul_assoc, Nat.mul_assoc, Nat.mul_comm j l]
  · rw [if_neg q, if_neg q, Nat.mul_div_cancel _ p, Nat.mul_div_cancel_left _ (show 0 < 3 by decide), Nat.one_mul]
    congr 2
    rw [Nat.mul_assoc, Nat.mul_assoc, Nat.mul_comm j l]
theorem rCt_G {ix iy : Nat → Nat} {G : Nat} (hG : 1 ≤ G) (h : ∀ j, iy j = G * ix j) (e : Nat) : ∀ j, rCt iy (G * e) j = rCt ix e j
  | 0 => rfl
  | j + 1 => by
    show rCt iy (G * e) j + (if iy j = G * e then 1 else 0) = rCt ix e j + (if ix j = e then 1 else 0)
    rw [rCt_G hG h e j, h j]
    by_cases q : ix j = e
    · rw [if_pos q, if_pos (by rw [q])]
    · rw [if_neg q, if_neg (fun z => q (Nat.eq_of_mul_eq_mul_left hG z))]
theorem rCt_0 {iy ix : Nat → Nat} {G k : Nat} (h : ∀ j, iy j = G * ix j) (hk : k % G ≠ 0) : ∀ j, rCt iy k j = 0
  | 0 => rfl
  | j + 1 => by
    show rCt iy k j + (if iy j = k then 1 else 0) = 0
    rw [rCt_0 h hk j, if_neg (fun z => hk (by rw [← z, h j, Nat.mul_mod_right]))]
theorem rCt_le (ix : Nat → Nat) (e : Nat) : ∀ j, rCt ix e j ≤ j
  | 0 => Nat.le_refl _
  | j + 1 => by
    have h := rCt_le ix e j
    show rCt ix e j + (if ix j = e then 1 else 0) ≤ j + 1
    split <;> omega
theorem rCt_upd {ix : Nat → Nat} {w : Nat → Int32} {N j : Nat} (hw : ∀ e, e < N → w e = nI (rCt ix e j)) : ∀ e, e < N → upd w (ix j) (nI (rCt ix (ix j) j + 1)) e = nI (rCt ix e (j + 1)) := by
  intro e he
  show _ = nI (rCt ix e j + (if ix j = e then 1 else 0))
  by_cases q : e = ix j
  · rw [q, pk_us, if_pos rfl]
  · rw [pk_un q, if_neg (Ne.symm q), hw e he, Nat.add_zero]
theorem rPt_le {n r : Nat} (h2 : n ≤ 12) : rPt n r ≤ 36 := by
  unfold rPt rRep
  split <;> split <;> omega
theorem rPt_pos {n r : Nat} (h1 : 1 ≤ n) : 1 ≤ rPt n r := by
  have := rRep_pos (n := n) (r := r) h1
  unfold rPt
  split <;> omega
theorem rPt_3 (n r : Nat) : rPt n r % 3 = 0 := by
  unfold rPt
  split <;> omega
theorem x6_cp_36 {n r l : Nat} (h1 : 1 ≤ n) (h2 : n ≤ 12) (hr : r < 2 ^ n) (hl : l < rRep n r) : ∀ (f j : Nat) (w : Nat → Int32), j ≤ rRep n r → rRep n r - j < f → (∀ e, e < 36 → w e = nI (rCt (ixC n r l) e j)) →
    ∃ w', f_X6_countPoints_36 f (nI n) (nI (rRep n r)) (nI (rPt n r / rRep n r * l)) (nI (rPt n r)) (nI (rLt n r j)) (nI (rTi n r j)) (nI j) w = some w' ∧ ∀ e, e < 36 → w' e = nI (rCt (ixC n r l) e (rRep n r))
  | 0, _, _, _, h, _ => absurd h (Nat.not_lt_zero _)
  | f + 1, j, w, hj, hf, hw => by
    have lr := rRep_le (n := n) (r := r) h2
    have lp := rPt_le (n := n) (r := r) h2
    have pp := rPt_pos (n := n) (r := r) h1
    have lt3 := rLt_lt n r j
    have dv : rPt n r / rRep n r ≤ 3 := by
      have := rRep_pos (n := n) (r := r) h1
      unfold rPt
      split
      · rw [Nat.div_self this]; omega
      · rw [Nat.mul_div_cancel _ this]; omega
    rw [f_X6_countPoints_36]
    by_cases q : rRep n r ≤ j
    · rw [if_pos ((nI_leI (by omega) (by omega)).mpr q)]
      exact ⟨w, rfl, fun e he => by rw [hw e he, show j = rRep n r by omega]⟩
    · have s1 := x8_startsUp h1 h2 (rTi_lt h1 h2 hr j)
      rw [rTi_S h1 h2 hr j 0, Nat.zero_add] at s1
      have b1 := x8_letterBehind lt3 (rS_lt n r j)
      have t1 := x8_turned h1 h2 (rTi_lt h1 h2 hr j)
      have big : rPt n r / rRep n r * l * j + rPt n r / 3 * rLt n r j < 2 ^ 31 := by
        have a1 : rPt n r / rRep n r * l ≤ 3 * 36 := Nat.mul_le_mul dv (by omega)
        have a2 : rPt n r / rRep n r * l * j ≤ 3 * 36 * 36 := Nat.mul_le_mul a1 (by omega)
        have a3 : rPt n r / 3 * rLt n r j ≤ 12 * 3 := Nat.mul_le_mul (by omega) (by omega)
        omega
      have ix : ((nI (rPt n r / rRep n r * l) * nI j) + ((nI (rPt n r) / (3 : Int32)) * nI (rLt n r j))) - ((nI (rPt n r / rRep n r * l) * nI j) + ((nI (rPt n r) / (3 : Int32)) * nI (rLt n r j))) / nI (rPt n r) * nI (rPt n r) = nI (ixC n r l j) := by
        rw [show (3 : Int32) = nI 3 from rfl, pk_div (by omega) (by omega) (by omega), pk_mul, pk_mul, nI_add, pk_rem big pp (by omega)]; rfl
      have il : ixC n r l j < rPt n r := Nat.mod_lt _ pp
      have cle := rCt_le (ixC n r l) (ixC n r l j) j
      rw [if_neg (fun z => q ((nI_leI (by omega) (by omega)).mp z)), if_neg (nI_nle (by omega) (by omega)), gd_t _ (nI_ne0 pp (by omega)), ix, f_X6_countPoints_67, x11_at (by omega) (by omega), bd_s, hw _ (by omega), nI_1, x11_set (by omega) (by omega), bd_s, s1, bd_s, b1, bd_s, t1, bd_s, nI_1]
      exact x6_cp_36 h1 h2 hr hl f (j + 1) _ (by omega) (by omega) (rCt_upd hw)
theorem x6_cp_3 {x1 x2 x3 x4 x5 : Int32} : ∀ (f k : Nat) (w : Nat → Int32), k ≤ 36 → 36 - k < f → (∀ e, e < k → w e = 0) →
    ∃ w', (∀ e, e < 36 → w' e = 0) ∧ f_X6_countPoints_3 f x1 x2 x3 x4 x5 (nI k) w = f_X6_countPoints_36 kFU x2 x3 x4 x5 0 x1 0 w'
  | 0, _, _, _, h, _ => absurd h (Nat.not_lt_zero _)
  | f + 1, k, w, hk, hf, hw => by
    rw [f_X6_countPoints_3]
    by_cases q : 36 ≤ k
    · rw [if_pos (show (36 : Int32) ≤ nI k from (nI_leI (a := 36) (by omega) (by omega)).mpr q)]
      exact ⟨w, fun e he => hw e (by omega), rfl⟩
    · rw [if_neg (show ¬ (36 : Int32) ≤ nI k from fun z => q ((nI_leI (a := 36) (by omega) (by omega)).mp z)), gd_t _ (nI_in (by omega) (by omega)), lt_q, nI_clamp (by omega), nI_1]
      refine x6_cp_3 f (k + 1) _ (by omega) (by omega) (fun j hj => ?_)
      by_cases e : j = k
      · rw [e, pk_us]
      · rw [pk_un e]; exact hw j (by omega)
theorem x6_cp {n r l : Nat} (h1 : 1 ≤ n) (h2 : n ≤ 12) (hr : r < 2 ^ n) (hl : l < rRep n r) (w : Nat → Int32) : ∃ w', f_X6_countPoints (nI r) (nI n) (nI (rRep n r)) (nI (rPt n r / rRep n r * l)) (nI (rPt n r)) w = some w' ∧ ∀ e, e < 36 → w' e = nI (rCt (ixC n r l) e (rRep n r)) := by
  obtain ⟨w1, a, b⟩ := x6_cp_3 (x1 := nI r) (x2 := nI n) (x3 := nI (rRep n r)) (x4 := nI (rPt n r / rRep n r * l)) (x5 := nI (rPt n r)) kFU 0 w (by omega) (by unfold kFU; omega) (fun j hj => absurd hj (Nat.not_lt_zero _))
  have lr := rRep_le (n := n) (r := r) h2
  rw [f_X6_countPoints, show (0 : Int32) = nI 0 from rfl, b]
  exact x6_cp_36 h1 h2 hr hl kFU 0 w1 (Nat.zero_le _) (by unfold kFU; omega) (fun e he => by rw [a e he]; rfl)
theorem pl_cl {n r : Nat} (h1 : 1 ≤ n) (h2 : n ≤ 12) : pl 120 (3 * rRep n r) 2 = cl (rPt n r) := by
  have h := allB_at (N := 13) (p := fun n => n == 0 || ((pl 120 (3 * n) 2 == cl (if n % 3 = 0 then n else 3 * n)) && (pl 120 (3 * (3 * n)) 2 == cl (3 * n)))) (by decide +kernel) n (by omega)
  simp only [Bool.or_eq_true, Bool.and_eq_true, beq_iff_eq] at h
  rcases h with h | ⟨ha, hb⟩
  · omega
  · unfold rPt rRep
    by_cases q : (rP r + n) % 3 = 0
    · simp only [if_pos q]; exact ha
    · simp only [if_neg q]
      rw [if_pos (by omega)]; exact hb
