/-! FEED, LED, SIZE -/
/-- the i-th byte of a number, the highest first -/
def bb (p : Int32) (i : Nat) : Int32 := vp_nar .byte (p >>> (nI (24 - 8 * i) &&& 31)).toInt8.toInt32
theorem x10_add1 {p : Int32} {T i f : Nat} {w : Nat → Int32} (hT : T < 500) (hi : i < 4) : f_X10_addNumber_3 (f + 1) p (nI (24 - 8 * i)) (nI T) w = f_X10_addNumber_3 f p (nI (24 - 8 * i) + (-8 : Int32)) (nI (T + 1)) (upd w T (bb p i)) := by
  rw [f_X10_addNumber_3, if_neg (nI_pos (by omega)), if_neg (nI_pos (by omega)), if_neg (show ¬ (500 : Int32) ≤ nI T from nI_ge (b := 500) hT (by omega)), lt_q, gd_t _ (nI_in (by omega) (by omega)), lt_q, lt_q, nI_clamp (by omega), f_X10_addNumber_49, nI_1, bb]
theorem x10_add {p : Int32} {T : Nat} {w : Nat → Int32} (hT : T + 4 ≤ 500) : ∃ w', f_X10_addNumber p (nI T) w = some (nI (T + 4), w') ∧ (∀ j, j < T → w' j = w j) ∧ ∀ i, i < 4 → w' (T + i) = bb p i := by
  refine ⟨upd (upd (upd (upd w T (bb p 0)) (T + 1) (bb p 1)) (T + 2) (bb p 2)) (T + 3) (bb p 3), ?_, fun j hj => ?_, fun i hi => ?_⟩
  · rw [f_X10_addNumber, show kFU = 99995 + 1 + 1 + 1 + 1 + 1 from rfl, show (24 : Int32) = nI (24 - 8 * 0) from rfl, x10_add1 (by omega) (by omega), show nI (24 - 8 * 0) + (-8 : Int32) = nI (24 - 8 * 1) by decide, x10_add1 (by omega) (by omega), show nI (24 - 8 * 1) + (-8 : Int32) = nI (24 - 8 * 2) by decide, x10_add1 (by omega) (by omega), show nI (24 - 8 * 2) + (-8 : Int32) = nI (24 - 8 * 3) by decide, x10_add1 (by omega) (by omega), f_X10_addNumber_3, if_pos (by decide)]
  · rw [pk_un (by omega), pk_un (by omega), pk_un (by omega), pk_un (by omega)]
  · rcases (by omega : i = 0 ∨ i = 1 ∨ i = 2 ∨ i = 3) with rfl | rfl | rfl | rfl
    · rw [pk_un (by omega), pk_un (by omega), pk_un (by omega)]; exact pk_us
    · rw [pk_un (by omega), pk_un (by omega)]; exact pk_us
    · rw [pk_un (by omega)]; exact pk_us
    · exact pk_us
/-- byte k of the twenty -/
def bt (a b c d e : Int32) (k : Nat) : Int32 := bb (if k < 4 then a else if k < 8 then b else if k < 12 then c else if k < 16 then d else e) (k % 4)
theorem x13_feed_23 {a b c d e t : Int32} {T : Nat} {w : Nat → Int32} (hT : T + 20 ≤ 500) : ∀ (f k : Nat) (w' : Nat → Int32), k ≤ 20 → 20 - k < f → (∀ j, j < T → w' j = w j) → (∀ j, j < k → w' (T + j) = bt a b c d e j) →
    ∃ w2, f_X13_feed_23 f a b c d e (nI k) (nI (T + k)) t w' = some (nI (T + 20), nI (T + 20), t, w2) ∧ (∀ j, j < T → w2 j = w j) ∧ ∀ j, j < 20 → w2 (T + j) = bt a b c d e j
  | 0, _, _, _, h, _, _ => absurd h (Nat.not_lt_zero _)
  | f + 1, k, w', hk, hf, h1, h2 => by
    have le : ∀ m, m < 1000 → ((nI m ≤ nI k) ↔ m ≤ k) := fun m hm => nI_leI (by omega) (by omega)
    have e4 : (4 : Int32) = nI 4 := rfl
    have e8 : (8 : Int32) = nI 8 := rfl
    have e12 : (12 : Int32) = nI 12 := rfl
    have e16 : (16 : Int32) = nI 16 := rfl
    rw [f_X13_feed_23]
    by_cases q : 20 ≤ k
    · rw [if_pos (show (20 : Int32) ≤ nI k from (le 20 (by omega)).mpr q), show k = 20 by omega]
      exact ⟨w', rfl, h1, fun j hj => h2 j (by omega)⟩
    · rw [if_neg (show ¬ (20 : Int32) ≤ nI k from fun z => q ((le 20 (by omega)).mp z))]
      have go : ∀ s : Int32, bb s (k % 4) = bt a b c d e k → ∃ w2, f_X13_feed_76 (fun x1 x2 x3 x4 x5 x6 y z u => f_X13_feed_23 f x1 x2 x3 x4 x5 x6 y z u) a b c d e (nI k) s (nI (T + k)) t w' = some (nI (T + 20), nI (T + 20), t, w2) ∧ (∀ j, j < T → w2 j = w j) ∧ ∀ j, j < 20 → w2 (T + j) = bt a b c d e j := fun s hs => by
        have sh : ((24 : Int32) - ((8 : Int32) * (nI k - nI k / (4 : Int32) * (4 : Int32)))) = nI (24 - 8 * (k % 4)) := of_decide_eq_true (allB_at (N := 20) (p := fun k => decide (((24 : Int32) - ((8 : Int32) * (nI k - nI k / (4 : Int32) * (4 : Int32)))) = nI (24 - 8 * (k % 4)))) (by decide +kernel) k (by omega))
        rw [f_X13_feed_76, lt_q, gd_t _ (nI_in (by omega) (by omega)), lt_q, lt_q, nI_clamp (by omega), sh, nI_1, nI_1]
        rw [show vp_nar .byte (s >>> (nI (24 - 8 * (k % 4)) &&& 31)).toInt8.toInt32 = bt a b c d e k from hs, show T + k + 1 = T + (k + 1) by omega]
        refine x13_feed_23 hT f (k + 1) _ (by omega) (by omega) (fun j hj => ?_) (fun j hj => ?_)
        · rw [pk_un (by omega)]; exact h1 j hj
        · by_cases z : j = k
          · rw [z, pk_us]
          · rw [pk_un (by omega)]; exact h2 j (by omega)
      by_cases q4 : 4 ≤ k
      · rw [if_pos (show (4 : Int32) ≤ nI k from (le 4 (by omega)).mpr q4)]
        by_cases q8 : 8 ≤ k
        · rw [if_pos (show (8 : Int32) ≤ nI k from (le 8 (by omega)).mpr q8)]
          by_cases q12 : 12 ≤ k
          · rw [if_pos (show (12 : Int32) ≤ nI k from (le 12 (by omega)).mpr q12)]
            by_cases q16 : 16 ≤ k
            · rw [if_pos (show (16 : Int32) ≤ nI k from (le 16 (by omega)).mpr q16)]
              exact go e (by unfold bt; rw [if_neg (by omega), if_neg (by omega), if_neg (by omega), if_neg (by omega)])
            · rw [if_neg (show ¬ (16 : Int32) ≤ nI k from fun z => q16 ((le 16 (by omega)).mp z))]
              exact go d (by unfold bt; rw [if_neg (by omega), if_neg (by omega), if_neg (by omega), if_pos (by omega)])
          · rw [if_neg (show ¬ (12 : Int32) ≤ nI k from fun z => q12 ((le 12 (by omega)).mp z))]
            exact go c (by unfold bt; rw [if_neg (by omega), if_neg (by omega), if_pos (by omega)])
        · rw [if_neg (show ¬ (8 : Int32) ≤ nI k from fun z => q8 ((le 8 (by omega)).mp z))]
          exact go b (by unfold bt; rw [if_neg (by omega), if_pos (by omega)])
      · rw [if_neg (show ¬ (4 : Int32) ≤ nI k from fun z => q4 ((le 4 (by omega)).mp z))]
        exact go a (by unfold bt; rw [if_pos (by omega)])
theorem q_feed {T : Nat} {w v : Nat → Int32} (hT : T ≤ 500) (h : ∀ i, i < T → w i = v i) (a b c d e t : Int32) : ∃ (x : Int32) (T' : Nat) (w' v' : Nat → Int32), T' ≤ 500 ∧ (∀ i, i < T' → w' i = v' i) ∧ f_X11_feed a b c d e (nI T) w = some (x, nI T', w') ∧ f_X13_feed a b c d e (nI T) t v = some (x, nI T', 0, v') := by
  by_cases q : T + 20 ≤ 500
  · have z1 : ¬ (500 : Int32) < nI T + (20 : Int32) := by
      rw [show nI T + (20 : Int32) = nI (T + 20) from nI_add T 20]
      exact nI_nlt (a := 500) q (by omega)
    have z2 : nI T + (20 : Int32) ≤ (500 : Int32) := by
      rw [show nI T + (20 : Int32) = nI (T + 20) from nI_add T 20]
      exact nI_le (b := 500) q (by omega)
    obtain ⟨w1, a1, a2, a3⟩ := x10_add (p := a) (w := w) (show T + 4 ≤ 500 by omega)
    obtain ⟨w2, b1, b2, b3⟩ := x10_add (p := b) (w := w1) (show (T + 4) + 4 ≤ 500 by omega)
    obtain ⟨w3, c1, c2, c3⟩ := x10_add (p := c) (w := w2) (show (T + 4 + 4) + 4 ≤ 500 by omega)
    obtain ⟨w4, d1, d2, d3⟩ := x10_add (p := d) (w := w3) (show (T + 4 + 4 + 4) + 4 ≤ 500 by omega)
    obtain ⟨w5, e1, e2, e3⟩ := x10_add (p := e) (w := w4) (show (T + 4 + 4 + 4 + 4) + 4 ≤ 500 by omega)
    obtain ⟨v', m1, m2, m3⟩ := x13_feed_23 (a := a) (b := b) (c := c) (d := d) (e := e) (t := 0) (w := v) q kFU 0 v (Nat.zero_le _) (by unfold kFU; omega) (fun _ _ => rfl) (fun j hj => absurd hj (Nat.not_lt_zero _))
    refine ⟨nI (T + 20), T + 20, w5, v', q, fun i hi => ?_, ?_, ?_⟩
    · by_cases l : i < T
      · rw [m2 i l, ← h i l, e2 i (by omega), d2 i (by omega), c2 i (by omega), b2 i (by omega), a2 i l]
      · obtain ⟨k, rfl⟩ : ∃ k, i = T + k := ⟨i - T, by omega⟩
        have hk : k < 20 := by omega
        rw [m3 k hk]
        unfold bt
        by_cases q4 : k < 4
        · rw [if_pos q4, e2 _ (by omega), d2 _ (by omega), c2 _ (by omega), b2 _ (by omega), a3 k q4, Nat.mod_eq_of_lt q4]
        · rw [if_neg q4]
          by_cases q8 : k < 8
          · rw [if_pos q8, e2 _ (by omega), d2 _ (by omega), c2 _ (by omega), show T + k = T + 4 + (k - 4) by omega, b3 (k - 4) (by omega), show k % 4 = k - 4 by omega]
          · rw [if_neg q8]
            by_cases q12 : k < 12
            · rw [if_pos q12, e2 _ (by omega), d2 _ (by omega), show T + k = T + 4 + 4 + (k - 8) by omega, c3 (k - 8) (by omega), show k % 4 = k - 8 by omega]
            · rw [if_neg q12]
              by_cases q16 : k < 16
              · rw [if_pos q16, e2 _ (by omega), show T + k = T + 4 + 4 + 4 + (k - 12) by omega, d3 (k - 12) (by omega), show k % 4 = k - 12 by omega]
              · rw [if_neg q16, show T + k = T + 4 + 4 + 4 + 4 + (k - 16) by omega, e3 (k - 16) (by omega), show k % 4 = k - 16 by omega]
    · rw [f_X11_feed, f_X10_hasRoom, if_neg z1, bd_s, if_neg (by decide), a1, bd_s, b1, bd_s, c1, bd_s, d1, bd_s, e1, bd_s]
    · rw [f_X13_feed, if_pos z2]
      exact m1
  · have z1 : (500 : Int32) < nI T + (20 : Int32) := by
      rw [show nI T + (20 : Int32) = nI (T + 20) from nI_add T 20]
      exact nI_lt (a := 500) (by omega) (by omega)
    have z2 : ¬ nI T + (20 : Int32) ≤ (500 : Int32) := by
      rw [show nI T + (20 : Int32) = nI (T + 20) from nI_add T 20]
      exact nI_ge (a := 500) (by omega) (by omega)
    exact ⟨-1, T, w, v, hT, h, by rw [f_X11_feed, f_X10_hasRoom, if_pos z1, bd_s, if_pos rfl], by rw [f_X13_feed, if_neg z2]⟩
/-- led: -1 stands for the throw -/
theorem q_led_l {c : Nat} {L R V : Nat → Int32} (h : SV c L R V) (p : Int32) : ∀ (f k : Nat) (m : Int32), k ≤ c → c - k < f →
    (∃ s, s < c ∧ f_X11_led_4 f p m (nI k) (nI c) L R = some (nI s) ∧ f_X13_led_9 f p m (nI k) 0 (nI c) V = some (nI s, 0)) ∨ (f_X11_led_4 f p m (nI k) (nI c) L R = some (-1) ∧ f_X13_led_9 f p m (nI k) 0 (nI c) V = some (0, 1))
  | 0, _, _, _, h => absurd h (Nat.not_lt_zero _)
  | f + 1, k, m, hk, hf => by
    have hc := h.1
    rw [f_X11_led_4, f_X13_led_9]
    by_cases q : c ≤ k
    · have z := (nI_leI (a := c) (b := k) (by omega) (by omega)).mpr q
      rw [if_pos z, if_pos z]
      exact Or.inr ⟨rfl, rfl⟩
    · have z : ¬ nI c ≤ nI k := fun z => q ((nI_leI (by omega) (by omega)).mp z)
      obtain ⟨n, r, g5, g1, -, g2, gr, b1, b2, b3, b4⟩ := sv_at h (show k < c by omega)
      have lR := rRep_le (n := n) (r := r) g2
      rw [if_neg z, if_neg z, b1, bd_s, b2, bd_s, x8_closes g1 g2 gr, bd_s, b3, bd_s, b4, bd_s, x13_repeats g1 g2 gr, bd_s, bd_s]
      by_cases e : rRep n r = n
      · rw [if_pos e, if_neg (by decide), if_pos (congrArg nI e), f_X11_led_47, f_X13_led_61, nI_1]
        exact q_led_l h p f (k + 1) m (by omega) (by omega)
      · rw [if_neg e, if_pos rfl, if_neg (fun y => e ((nI_eq (by omega) (by omega)).mp y))]
        by_cases y : m = p
        · have ne : nI k ≠ (-1 : Int32) := fun w => by
            have := nI_pos (n := k) (by omega)
            rw [w] at this
            exact this (by decide)
          rw [if_pos y, if_pos y, gd_t _ ne]
          exact Or.inl ⟨k, by omega, rfl, rfl⟩
        · rw [if_neg y, if_neg y, f_X11_led_47, f_X13_led_61, nI_1]
          exact q_led_l h p f (k + 1) (m + 1) (by omega) (by omega)
theorem q_led {c : Nat} {L R V : Nat → Int32} (h : SV c L R V) (p t : Int32) : (∃ s, s < c ∧ f_X11_led p (nI c) L R = some (nI s) ∧ f_X13_led p t (nI c) V = some (nI s, 0)) ∨ (f_X11_led p (nI c) L R = some (-1) ∧ f_X13_led p t (nI c) V = some (0, 1)) := by
  have hc := h.1
  exact q_led_l h p kFU 0 0 (Nat.zero_le _) (by unfold kFU; omega)
theorem q_size (p a i w T ag g n1 n2 n3 un t : Int32) : ∃ x : Int32, f_X11_size p a i w T ag 1 g n1 n2 n3 un = some x ∧ f_X13_size p a i T t ag g n1 n2 w n3 un = some (x, 0) := by
  by_cases p9 : p = 9
  · subst p9
    exact ⟨T, rfl, rfl⟩
  · rcases q_in 0 8 0 8 9 rfl rfl rfl (by omega) (by omega) p with ⟨k, -, hk, rfl, -, -, -, -, -, e7⟩ | ⟨gg, e7⟩
    · rcases (by omega : k = 0 ∨ k = 1 ∨ k = 2 ∨ k = 3 ∨ k = 4 ∨ k = 5 ∨ k = 6 ∨ k = 7 ∨ k = 8) with rfl | rfl | rfl | rfl | rfl | rfl | rfl | rfl | rfl
      · exact ⟨_, rfl, rfl⟩
      · exact ⟨_, rfl, rfl⟩
      · exact ⟨_, rfl, rfl⟩
      · exact ⟨_, rfl, rfl⟩
      · exact ⟨_, rfl, rfl⟩
      · exact ⟨_, rfl, rfl⟩
      · exact ⟨_, rfl, rfl⟩
      · exact ⟨_, rfl, rfl⟩
      · exact ⟨_, rfl, rfl⟩
    · have ne : ∀ k : Nat, k ≤ 8 → p ≠ nI k := fun k hk z => by
        subst z
        rcases gg with g | ⟨-, g, -⟩
        · exact nI_pos (by omega) g
        · have := (nI_ltI (a := 8) (by omega) (by omega)).mp g
          omega
      refine ⟨-1, ?_, ?_⟩
      · rw [f_X11_size, if_neg (show ¬ p = (0 : Int32) from ne 0 (by omega)), if_neg (show ¬ p = (1 : Int32) from ne 1 (by omega)), if_neg (show ¬ p = (2 : Int32) from ne 2 (by omega)), if_neg (show ¬ p = (3 : Int32) from ne 3 (by omega)), if_neg (show ¬ p = (4 : Int32) from ne 4 (by omega)), if_neg (show ¬ p = (5 : Int32) from ne 5 (by omega)), if_neg (show ¬ p = (6 : Int32) from ne 6 (by omega)), if_neg (show ¬ p = (7 : Int32) from ne 7 (by omega)), if_neg (show ¬ p = (8 : Int32) from ne 8 (by omega)), if_neg p9]
      · rw [f_X13_size, if_neg p9, e7, bd_s, if_pos rfl]
theorem q_size0 (p T ag t n1 n2 n3 : Int32) : ∃ x : Int32, f_X11_size p 0 0 0 T 0 0 0 n1 n2 n3 0 = some x ∧ f_X13_size_0 p T t = some (x, 0) := by
  by_cases p9 : p = 9
  · subst p9
    exact ⟨T, rfl, rfl⟩
  · rcases q_in 0 8 0 8 9 rfl rfl rfl (by omega) (by omega) p with ⟨k, -, hk, rfl, -, -, -, -, -, e7⟩ | ⟨gg, e7⟩
    · have z : f_X13_size_0 (nI k) T t = some (0, 0) := by rw [f_X13_size_0, if_neg p9, e7, bd_s, if_neg (by decide)]
      refine ⟨0, ?_, z⟩
      rcases (by omega : k = 0 ∨ k = 1 ∨ k = 2 ∨ k = 3 ∨ k = 4 ∨ k = 5 ∨ k = 6 ∨ k = 7 ∨ k = 8) with rfl | rfl | rfl | rfl | rfl | rfl | rfl | rfl | rfl <;> rfl
    · have ne : ∀ k : Nat, k ≤ 8 → p ≠ nI k := fun k hk z => by
        subst z
        rcases gg with g | ⟨-, g, -⟩
        · exact nI_pos (by omega) g
        · have := (nI_ltI (a := 8) (by omega) (by omega)).mp g
          omega
      refine ⟨-1, ?_, ?_⟩
      · rw [f_X11_size, if_neg (show ¬ p = (0 : Int32) from ne 0 (by omega)), if_neg (show ¬ p = (1 : Int32) from ne 1 (by omega)), if_neg (show ¬ p = (2 : Int32) from ne 2 (by omega)), if_neg (show ¬ p = (3 : Int32) from ne 3 (by omega)), if_neg (show ¬ p = (4 : Int32) from ne 4 (by omega)), if_neg (show ¬ p = (5 : Int32) from ne 5 (by omega)), if_neg (show ¬ p = (6 : Int32) from ne 6 (by omega)), if_neg (show ¬ p = (7 : Int32) from ne 7 (by omega)), if_neg (show ¬ p = (8 : Int32) from ne 8 (by omega)), if_neg p9]
      · rw [f_X13_size_0, if_neg p9, e7, bd_s, if_pos rfl]
