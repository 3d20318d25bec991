/-! READING WHAT WAS SAID: from a place the rest of the text; its next token -/
def RT (tb : Nat → Int32) (e : Nat) : Nat → List Nat → Prop
  | p, [] => p = e
  | p, b :: r => bN tb p = b ∧ RT tb e (p + 1) r
theorem RT_len {tb : Nat → Int32} {e : Nat} : ∀ (r : List Nat) (p : Nat), RT tb e p r → p + r.length = e
  | [], _, h => h
  | _ :: r, p, h => by
    have := RT_len r (p + 1) h.2
    rw [List.length_cons]; omega
theorem RT_of {tb : Nat → Int32} : ∀ (l : List Nat) (p : Nat), (∀ i, i < l.length → bN tb (p + i) = l.getD i 0) → RT tb (p + l.length) p l
  | [], _, _ => rfl
  | b :: l, p, h => by
    refine ⟨h 0 (Nat.zero_lt_succ _), ?_⟩
    have := RT_of l (p + 1) (fun i hi => by
      have a := h (i + 1) (Nat.succ_lt_succ hi)
      rw [show p + (i + 1) = p + 1 + i by omega] at a
      exact a)
    rw [List.length_cons, show p + (l.length + 1) = p + 1 + l.length by omega]
    exact this
theorem RT_ap {tb : Nat → Int32} {e : Nat} {r : List Nat} : ∀ (a : List Nat) (p : Nat), RT tb e p (a ++ r) → RT tb e (p + a.length) r ∧ ∀ j, j < a.length → bN tb (p + j) = a.getD j 0
  | [], _, h => ⟨h, fun j hj => absurd hj (Nat.not_lt_zero _)⟩
  | b :: a, p, h => by
    obtain ⟨k1, k2⟩ := RT_ap a (p + 1) h.2
    rw [List.length_cons, show p + (a.length + 1) = p + 1 + a.length by omega]
    refine ⟨k1, fun j hj => ?_⟩
    cases j with
    | zero => exact h.1
    | succ j => rw [show p + (j + 1) = p + 1 + j by omega]; exact k2 j (by omega)
theorem RT_at {tb : Nat → Int32} {e p b : Nat} {r : List Nat} (he : e ≤ 500) (h : RT tb e p (b :: r)) : p < e ∧ b < 256 ∧ f_X10_byteAt (nI p) tb = some (nI b) ∧ bC tb p = b := by
  have l := RT_len _ _ h
  rw [List.length_cons] at l
  have c : bC tb p = b := by unfold bC; rw [if_pos (by omega)]; exact h.1
  exact ⟨by omega, by rw [← h.1]; exact bN_lt _ _, by rw [x10_byteAt (by omega), c], c⟩
def wdL (x : Int64) : List Nat → Int64
  | [] => x
  | b :: l => wdL (x * (32 : Int64) + ((nI b - (97 : Int32)) + (1 : Int32)).toInt64) l
def vaL (x : Nat) : List Nat → Nat
  | [] => x
  | b :: l => vaL (x * 10 + (b - 48)) l
theorem fT : (if false = true then (1 : Int32) else 0) = 0 := by decide
theorem tT : (if true = true then (1 : Int32) else 0) = 1 := by decide
section RTK
variable {tb : Nat → Int32} {e : Nat}
theorem aw_l (he : e ≤ 500) {kd p0 : Int32} {r : List Nat} (hr : isL (r.headD 0) = false) : ∀ (ls : List Nat) (f p : Nat) (wd : Int64), (∀ b, b ∈ ls → isL b = true) → RT tb e p (ls ++ r) → ls.length < f → f_X7_advanceWord_12 f (nI (bC tb p)) (nI e) kd (nI p) p0 wd tb = f_X7_advanceWord_75 (nI e) kd (nI (p + ls.length)) p0 (wdL wd ls) tb
  | _, 0, _, _, _, _, h => absurd h (Nat.not_lt_zero _)
  | [], f + 1, p, wd, _, h, _ => by
    rw [f_X7_advanceWord_12]
    cases r with
    | nil =>
      have l := RT_len _ _ h
      rw [if_pos (nI_le (show e ≤ p by simp at l; omega) (by simp at l; omega))]; rfl
    | cons b r =>
      obtain ⟨k1, k2, k3, k4⟩ := RT_at he h
      rw [if_neg (nI_ge k1 (by omega)), k4, x7_isLetter k2, bd_s, show isL b = false from hr, fT, if_pos rfl]; rfl
  | b :: ls, f + 1, p, wd, hb, h, hf => by
    rw [List.length_cons] at hf
    obtain ⟨k1, k2, k3, k4⟩ := RT_at he h
    have lb := hb b List.mem_cons_self
    rw [f_X7_advanceWord_12, if_neg (nI_ge k1 (by omega)), k4, x7_isLetter k2, bd_s, lb, tT, if_neg (by decide), lt_q, lt_q, nI_1, x10_byteAt (by omega), bd_s, aw_l he hr ls f (p + 1) _ (fun x hx => hb x (List.mem_cons_of_mem _ hx)) h.2 (by omega)]
    rw [List.length_cons, show p + (ls.length + 1) = p + 1 + ls.length by omega]
    rfl
theorem ad_l (he : e ≤ 500) {kd p0 : Int32} {r : List Nat} (hr : isD (r.headD 0) = false) : ∀ (ls : List Nat) (f p v : Nat), (∀ b, b ∈ ls → isD b = true) → RT tb e p (ls ++ r) → ls.length < f → f_X7_advanceWhole_12 f (nI (bC tb p)) (nI e) kd (nI p) p0 (nI v) tb = f_X7_advanceWhole_71 (nI e) kd (nI (p + ls.length)) p0 (nI (vaL v ls)) tb
  | _, 0, _, _, _, _, h => absurd h (Nat.not_lt_zero _)
  | [], f + 1, p, v, _, h, _ => by
    rw [f_X7_advanceWhole_12]
    cases r with
    | nil =>
      have l := RT_len _ _ h
      rw [if_pos (nI_le (show e ≤ p by simp at l; omega) (by simp at l; omega))]; rfl
    | cons b r =>
      obtain ⟨k1, k2, k3, k4⟩ := RT_at he h
      rw [if_neg (nI_ge k1 (by omega)), k4, x7_isDigit k2, bd_s, show isD b = false from hr, fT, if_pos rfl]; rfl
  | b :: ls, f + 1, p, v, hb, h, hf => by
    rw [List.length_cons] at hf
    obtain ⟨k1, k2, k3, k4⟩ := RT_at he h
    have lb := hb b List.mem_cons_self
    have l48 := isD_le lb
    rw [f_X7_advanceWhole_12, if_neg (nI_ge k1 (by omega)), k4, x7_isDigit k2, bd_s, lb, tT, if_neg (by decide), lt_q, lt_q, nI_1, x10_byteAt (by omega), bd_s, show nI v * (10 : Int32) = nI (v * 10) from pk_mul v 10, show nI b - (48 : Int32) = nI (b - 48) from pk_sub l48.1, nI_add, ad_l he hr ls f (p + 1) _ (fun x hx => hb x (List.mem_cons_of_mem _ hx)) h.2 (by omega)]
    rw [List.length_cons, show p + (ls.length + 1) = p + 1 + ls.length by omega]
    rfl
theorem nI_less (p k : Nat) : nI (p + k) - nI p = nI k := by
  rw [pk_sub (by omega), show p + k - p = k by omega]
/-- a word -/
theorem a0_w (he : e ≤ 500) {kd ln pl vl : Int32} {wd : Int64} {b p f : Nat} {ls r : List Nat} (hb : ∀ x, x ∈ b :: ls → isL x = true) (hl : (b :: ls).length ≤ 12) (hr : isL (r.headD 0) = false) (h : RT tb e p ((b :: ls) ++ r)) : f_X7_advance_0 (f + 1) (nI e) kd ln (nI p) pl vl wd tb = some (1, nI (b :: ls).length, nI (p + (b :: ls).length), nI p, 0, wdL 0 (b :: ls)) := by
  obtain ⟨k1, k2, k3, k4⟩ := RT_at he h
  have lb := hb b List.mem_cons_self
  have l97 := isL_le lb
  have g := aw_l he (kd := kd) (p0 := nI p) hr (b :: ls) kFU p 0 hb h (by unfold kFU; omega)
  rw [k4] at g
  rw [f_X7_advance_0, if_neg (nI_ge k1 (by omega)), k3, bd_s, if_neg (show ¬ nI b = (32 : Int32) from fun z => by have := (nI_eq (b := 32) (by omega) (by decide)).mp z; omega), f_X7_advance_40, if_pos (nI_lt k1 (by omega)), k3, bd_s, x7_isLetter k2, bd_s, lb, tT, if_neg (by decide), f_X7_advanceWord, k3, bd_s, g, f_X7_advanceWord_75, nI_less, if_neg (show ¬ (12 : Int32) < nI (b :: ls).length from nI_nlt (a := 12) hl (by decide)), f_X7_advanceWord_95, bd_s, f_X7_advance_177, lt_q]
  show some (1, nI (p + (b :: ls).length) - nI p, _) = _
  rw [nI_less]
/-- a whole -/
theorem a0_d (he : e ≤ 500) {kd ln pl vl : Int32} {wd : Int64} {b p f : Nat} {ls r : List Nat} (hb : ∀ x, x ∈ b :: ls → isD x = true) (hl : (b :: ls).length ≤ 3) (hr : isD (r.headD 0) = false) (h : RT tb e p ((b :: ls) ++ r)) : f_X7_advance_0 (f + 1) (nI e) kd ln (nI p) pl vl wd tb = some (2, nI (b :: ls).length, nI (p + (b :: ls).length), nI p, nI (vaL 0 (b :: ls)), 0) := by
  obtain ⟨k1, k2, k3, k4⟩ := RT_at he h
  have lb := hb b List.mem_cons_self
  have l97 := isD_le lb
  have nl : isL b = false := by
    cases z : isL b with
    | false => rfl
    | true => have := isL_le z; omega
  have g := ad_l he (kd := kd) (p0 := nI p) hr (b :: ls) kFU p 0 hb h (by unfold kFU; omega)
  rw [k4, nI_0] at g
  rw [f_X7_advance_0, if_neg (nI_ge k1 (by omega)), k3, bd_s, if_neg (show ¬ nI b = (32 : Int32) from fun z => by have := (nI_eq (b := 32) (by omega) (by decide)).mp z; omega), f_X7_advance_40, if_pos (nI_lt k1 (by omega)), k3, bd_s, x7_isLetter k2, bd_s, nl, fT, if_pos rfl, bd_s, x7_isDigit k2, bd_s, lb, tT, if_neg (by decide), f_X7_advanceWhole, k3, bd_s, g, f_X7_advanceWhole_71, nI_less, if_neg (show ¬ (3 : Int32) < nI (b :: ls).length from nI_nlt (a := 3) hl (by decide)), f_X7_advanceWhole_90, bd_s, f_X7_advance_177, lt_q]
  show some (2, nI (p + (b :: ls).length) - nI p, _) = _
  rw [nI_less]
/-- a sign -/
theorem a0_s (he : e ≤ 500) {kd ln pl vl : Int32} {wd : Int64} {b p f : Nat} {r : List Nat} (hb : b = 59 ∨ b = 45) (h : RT tb e p (b :: r)) : f_X7_advance_0 (f + 1) (nI e) kd ln (nI p) pl vl wd tb = some (3, 1, nI (p + 1), nI p, nI b, 0) := by
  obtain ⟨k1, k2, k3, k4⟩ := RT_at he h
  have nl : isL b = false := by rcases hb with rfl | rfl <;> rfl
  have nd : isD b = false := by rcases hb with rfl | rfl <;> rfl
  rw [f_X7_advance_0, if_neg (nI_ge k1 (by omega)), k3, bd_s, if_neg (show ¬ nI b = (32 : Int32) from fun z => by have := (nI_eq (b := 32) (by omega) (by decide)).mp z; omega), f_X7_advance_40, if_pos (nI_lt k1 (by omega)), k3, bd_s, x7_isLetter k2, bd_s, nl, fT, if_pos rfl, bd_s, x7_isDigit k2, bd_s, nd, fT, if_pos rfl, bd_s]
  have go : f_X7_advance_159 (nI e) kd ln (nI p) (nI p) (nI b) (0 : Int64) tb = some (3, 1, nI (p + 1), nI p, nI b, 0) := by
    rw [f_X7_advance_159, f_X7_advance_164, lt_q, nI_1, f_X7_advance_177, lt_q, nI_less]; rfl
  by_cases z : b = 59
  · rw [if_pos (show nI b = (59 : Int32) by rw [z]; rfl)]; exact go
  · rw [if_neg (show ¬ nI b = (59 : Int32) from fun y => z ((nI_eq (b := 59) (by omega) (by decide)).mp y)), if_pos (show nI b = (45 : Int32) by rw [show b = 45 by omega]; rfl)]; exact go
/-- the end -/
theorem a0_e (he : e ≤ 500) {kd ln pl vl : Int32} {wd : Int64} {p f : Nat} (h : RT tb e p []) : f_X7_advance_0 (f + 1) (nI e) kd ln (nI p) pl vl wd tb = some (0, 0, nI p, nI p, 0, 0) := by
  obtain rfl : p = e := h
  rw [f_X7_advance_0, if_pos (Int32.le_refl _), f_X7_advance_40, if_neg (nI_nlt (Nat.le_refl _) (by omega)), f_X7_advance_177, lt_q, pk_sub (Nat.le_refl _), Nat.sub_self, nI_0]
/-- a blank ahead -/
theorem a0_b (he : e ≤ 500) {kd ln pl vl : Int32} {wd : Int64} {p f : Nat} {r : List Nat} (h : RT tb e p (32 :: r)) : f_X7_advance_0 (f + 1) (nI e) kd ln (nI p) pl vl wd tb = f_X7_advance_0 f (nI e) kd ln (nI (p + 1)) pl vl wd tb := by
  obtain ⟨k1, k2, k3, k4⟩ := RT_at he h
  rw [f_X7_advance_0, if_neg (nI_ge k1 (by omega)), k3, bd_s, if_pos (show nI 32 = (32 : Int32) from rfl), lt_q, nI_1]
/-- what stands behind the next blank, or at once -/
abbrev bl (k : Nat) : List Nat := if k = 0 then [] else [32]
theorem A_b (he : e ≤ 500) {kd ln pl vl : Int32} {wd : Int64} {p k : Nat} {r : List Nat} (hk : k ≤ 1) (h : RT tb e p (bl k ++ r)) : ∃ f, f_X7_advance (nI e) kd ln (nI p) pl vl wd tb = f_X7_advance_0 (f + 1) (nI e) kd ln (nI (p + k)) pl vl wd tb ∧ RT tb e (p + k) r := by
  rcases (by omega : k = 0 ∨ k = 1) with rfl | rfl
  · exact ⟨99999, rfl, h⟩
  · refine ⟨99998, ?_, h.2⟩
    rw [f_X7_advance, show kFU = 99999 + 1 from rfl, a0_b he h]
theorem A_w (he : e ≤ 500) {kd ln pl vl : Int32} {wd : Int64} {p k : Nat} {ls r : List Nat} (hk : k ≤ 1) (hb : ∀ x, x ∈ ls → isL x = true) (h1 : 1 ≤ ls.length) (hl : ls.length ≤ 12) (hr : isL (r.headD 0) = false) (h : RT tb e p (bl k ++ (ls ++ r))) : f_X7_advance (nI e) kd ln (nI p) pl vl wd tb = some (1, nI ls.length, nI (p + k + ls.length), nI (p + k), 0, wdL 0 ls) ∧ RT tb e (p + k + ls.length) r := by
  obtain ⟨f, q, h⟩ := A_b he hk h
  cases ls with
  | nil => exact absurd h1 (by decide)
  | cons b ls => exact ⟨by rw [q, a0_w he hb hl hr h], (RT_ap _ _ h).1⟩
theorem A_d (he : e ≤ 500) {kd ln pl vl : Int32} {wd : Int64} {p k : Nat} {ls r : List Nat} (hk : k ≤ 1) (hb : ∀ x, x ∈ ls → isD x = true) (h1 : 1 ≤ ls.length) (hl : ls.length ≤ 3) (hr : isD (r.headD 0) = false) (h : RT tb e p (bl k ++ (ls ++ r))) : f_X7_advance (nI e) kd ln (nI p) pl vl wd tb = some (2, nI ls.length, nI (p + k + ls.length), nI (p + k), nI (vaL 0 ls), 0) ∧ RT tb e (p + k + ls.length) r := by
  obtain ⟨f, q, h⟩ := A_b he hk h
  cases ls with
  | nil => exact absurd h1 (by decide)
  | cons b ls => exact ⟨by rw [q, a0_d he hb hl hr h], (RT_ap _ _ h).1⟩
theorem A_s (he : e ≤ 500) {kd ln pl vl : Int32} {wd : Int64} {p k b : Nat} {r : List Nat} (hk : k ≤ 1) (hb : b = 59 ∨ b = 45) (h : RT tb e p (bl k ++ (b :: r))) : f_X7_advance (nI e) kd ln (nI p) pl vl wd tb = some (3, 1, nI (p + k + 1), nI (p + k), nI b, 0) ∧ RT tb e (p + k + 1) r := by
  obtain ⟨f, q, h⟩ := A_b he hk h
  exact ⟨by rw [q, a0_s he hb h], h.2⟩
theorem A_e (he : e ≤ 500) {kd ln pl vl : Int32} {wd : Int64} {p : Nat} (h : RT tb e p []) : f_X7_advance (nI e) kd ln (nI p) pl vl wd tb = some (0, 0, nI p, nI p, 0, 0) := a0_e (f := 99999) he h
end RTK
/-! digits and words as lists -/
theorem dgs_D {v : Nat} (hv : v < 1000) : (∀ x, x ∈ dgs v → isD x = true) ∧ 1 ≤ (dgs v).length ∧ (dgs v).length ≤ 3 ∧ vaL 0 (dgs v) = v := by
  have d : ∀ x : Nat, x < 10 → isD (48 + x) = true := fun x h => by
    unfold isD
    rw [Nat.ble_eq.mpr (by omega), Nat.ble_eq.mpr (by omega)]; rfl
  unfold dgs
  by_cases a : v < 10
  · rw [if_pos a]
    refine ⟨fun x hx => ?_, Nat.le_refl 1, (show 1 ≤ 3 by decide), ?_⟩
    · rw [List.mem_singleton.mp hx]; exact d v a
    · show 0 * 10 + (48 + v - 48) = v; omega
  · rw [if_neg a]
    by_cases b : v < 100
    · rw [if_pos b]
      refine ⟨fun x hx => ?_, by simp, by simp, ?_⟩
      · rcases List.mem_cons.mp hx with rfl | hx
        · exact d _ (by omega)
        · rw [List.mem_singleton.mp hx]; exact d _ (by omega)
      · show (0 * 10 + (48 + v / 10 - 48)) * 10 + (48 + v % 10 - 48) = v; omega
    · rw [if_neg b]
      refine ⟨fun x hx => ?_, by simp, by simp, ?_⟩
      · rcases List.mem_cons.mp hx with rfl | hx
        · exact d _ (by omega)
        · rcases List.mem_cons.mp hx with rfl | hx
          · exact d _ (by omega)
          · rw [List.mem_singleton.mp hx]; exact d _ (by omega)
      · show ((0 * 10 + (48 + v / 100 - 48)) * 10 + (48 + v / 10 % 10 - 48)) * 10 + (48 + v % 10 - 48) = v; omega
def WL (j : Nat) : List Nat := [[108, 97, 98], [115, 116, 97, 99, 107], [117, 110, 115, 117, 114, 101], [97, 103, 114, 101, 101, 100], [110, 101, 97, 114], [115, 101, 99, 111, 110, 100], [116, 104, 105, 114, 100], [103, 114, 111, 119, 116, 104]].getD j []
theorem WL_w {i j : Nat} (hi : i < 8) (hj : j < 8) : f_X7_isWord i 1 (wdL 0 (WL j)) = some (if i = j then 1 else 0) := of_decide_eq_true (allB_at (allB_at (N := 8) (p := fun i => allB 8 (fun j => decide (f_X7_isWord i 1 (wdL 0 (WL j)) = some (if i = j then 1 else 0)))) (by decide +kernel) i hi) j hj)
theorem WL_l {j : Nat} (hj : j < 8) : (∀ x, x ∈ WL j → isL x = true) ∧ 1 ≤ (WL j).length ∧ (WL j).length ≤ 12 := of_decide_eq_true (allB_at (N := 8) (p := fun j => decide ((∀ x, x ∈ WL j → isL x = true) ∧ 1 ≤ (WL j).length ∧ (WL j).length ≤ 12)) (by decide +kernel) j hj)
/-- the stacks' names -/
def NL (k : Nat) : List Nat := [115, 97 + k]
theorem NL_n {k : Nat} (hk : k < 2) : f_X7_isName 1 (nI 2) (wdL 0 (NL k)) = some 1 := of_decide_eq_true (allB_at (N := 2) (p := fun k => decide (f_X7_isName 1 (nI 2) (wdL 0 (NL k)) = some 1)) (by decide +kernel) k hk)
theorem NL_l {k : Nat} (hk : k < 2) : (∀ x, x ∈ NL k → isL x = true) := of_decide_eq_true (allB_at (N := 2) (p := fun k => decide (∀ x, x ∈ NL k → isL x = true)) (by decide +kernel) k hk)
theorem NL_ne {j k : Nat} (hj : j < 2) (hk : k < 2) : wdL 0 (NL j) = wdL 0 (NL k) ↔ j = k := of_decide_eq_true (allB_at (allB_at (N := 2) (p := fun j => allB 2 (fun k => decide (wdL 0 (NL j) = wdL 0 (NL k) ↔ j = k))) (by decide +kernel) j hj) k hk)
/-- a row's letters -/
def RwL (r : Nat) : Nat → List Nat
  | 0 => []
  | k + 1 => (if r / 2 ^ k % 2 = 1 then 117 else 100) :: RwL r k
theorem RwL_len (r : Nat) : ∀ k, (RwL r k).length = k
  | 0 => rfl
  | k + 1 => by rw [RwL, List.length_cons, RwL_len r k]
theorem RwL_L (r : Nat) : ∀ k x, x ∈ RwL r k → isL x = true
  | 0, _, h => absurd h List.not_mem_nil
  | k + 1, x, h => by
    rcases List.mem_cons.mp h with rfl | h
    · split <;> rfl
    · exact RwL_L r k x h
theorem RwL_at (r : Nat) : ∀ k j, j < k → (RwL r k).getD j 0 = if r / 2 ^ (k - 1 - j) % 2 = 1 then 117 else 100
  | 0, _, h => absurd h (Nat.not_lt_zero _)
  | k + 1, 0, _ => rfl
  | k + 1, j + 1, h => by
    show (RwL r k).getD j 0 = _
    rw [RwL_at r k j (by omega), show k + 1 - 1 - (j + 1) = k - 1 - j by omega]
theorem RwL_row {tb : Nat → Int32} {p n r : Nat} (hr : r < 2 ^ n) (h : ∀ j, j < n → bN tb (p + j) = (RwL r n).getD j 0) : ∀ k, k ≤ n → Rk tb p k = 1 ∧ Rb tb p k = r / 2 ^ (n - k)
  | 0, _ => ⟨rfl, by rw [Nat.sub_zero, Nat.div_eq_of_lt hr]; rfl⟩
  | k + 1, hk => by
    obtain ⟨i1, i2⟩ := RwL_row hr h k (by omega)
    have b := h k (by omega)
    rw [RwL_at r n k (by omega)] at b
    have e2 : r / 2 ^ (n - k) = r / 2 ^ (n - (k + 1)) / 2 := by
      rw [Nat.div_div_eq_div_mul, ← Nat.pow_succ, show (n - (k + 1)).succ = n - k by omega]
    rw [show n - 1 - k = n - (k + 1) by omega] at b
    rw [Rk, Rb, i1, i2, b, e2]
    by_cases z : r / 2 ^ (n - (k + 1)) % 2 = 1
    · rw [if_pos z]
      exact ⟨rfl, by rw [if_pos rfl]; omega⟩
    · rw [if_neg z]
      exact ⟨rfl, by rw [if_neg (by decide)]; omega⟩
theorem RwL_read {tb : Nat → Int32} {p n r : Nat} (h2 : 2 ≤ n) (h12 : n ≤ 12) (hr : r < 2 ^ n) (hp : p + n ≤ 500) (h : ∀ j, j < n → bN tb (p + j) = (RwL r n).getD j 0) : f_X7_rowOfWord (nI n) (nI p) tb = some (nI r) := by
  obtain ⟨k1, k2⟩ := RwL_row hr h n (Nat.le_refl _)
  rw [x7_row h2 h12 hp, if_pos k1, k2, Nat.sub_self, Nat.pow_zero, Nat.div_one]
