/-! ONE BYTE MORE; words, numbers -/
theorem b5r : (5 : Int32).toNatClampNeg = 5 := by decide
theorem b6r : (6 : Int32).toNatClampNeg = 6 := by decide
theorem put_w {l : List Nat} {w : Nat → Int32} {σ : k_SB} {c : Nat} (h : PT l w σ) (hl : l.length < 480) : f_L_put (nI c) w σ = (if upd (upd (upd w (l.length % 20 / 4) ((w (l.length % 20 / 4) <<< ((8 : Int32) &&& 31)) ||| nI c)) 5 (nI (l.length % 20 + 1))) 6 (nI (l.length + 1)) 5 = (20 : Int32) then bd (f_L_flush (upd (upd (upd w (l.length % 20 / 4) ((w (l.length % 20 / 4) <<< ((8 : Int32) &&& 31)) ||| nI c)) 5 (nI (l.length % 20 + 1))) 6 (nI (l.length + 1))) σ) (fun t => some (t.1, t.2)) else some (upd (upd (upd w (l.length % 20 / 4) ((w (l.length % 20 / 4) <<< ((8 : Int32) &&& 31)) ||| nI c)) 5 (nI (l.length % 20 + 1))) 6 (nI (l.length + 1)), σ)) := by
  have r20 : l.length % 20 < 20 := Nat.mod_lt _ (by decide)
  have w5 : w (5 : Int32).toNatClampNeg = nI (l.length % 20) := by rw [b5r]; exact h.1
  have dv : nI (l.length % 20) / (4 : Int32) = nI (l.length % 20 / 4) := pk_div (by omega) (by decide) (by decide)
  have ir : inR (nI (l.length % 20 / 4)) 7 := nI_in (by omega) (by decide)
  have c4 : (nI (l.length % 20 / 4)).toNatClampNeg = l.length % 20 / 4 := nI_clamp (by omega)
  have u5 : ∀ x, upd w (l.length % 20 / 4) x 5 = nI (l.length % 20) := fun x => by rw [pk_un (by omega)]; exact h.1
  have u6 : ∀ x y, upd (upd w (l.length % 20 / 4) x) 5 y 6 = nI l.length := fun x y => by rw [pk_un (by omega), pk_un (by omega)]; exact h.2.1
  rw [f_L_put, gd_t _ (by decide), w5, lt_q, dv, gd_t _ ir, lt_q, gd_t _ ir, lt_q, gd_t _ (by decide), lt_q, gd_t _ (by decide), lt_q, gd_t _ (by decide), lt_q, gd_t _ (by decide), lt_q, gd_t _ (by decide), c4, b5r, b6r, u5, nI_1, u6, nI_1]
theorem put_1 {l : List Nat} {w : Nat → Int32} {σ : k_SB} {c : Nat} (h : PT l w σ) (hc : c < 256) (hl : l.length < 480) : ∃ w' σ', f_L_put (nI c) w σ = some (w', σ') ∧ PT (l ++ [c]) w' σ' := by
  rw [put_w h hl]
  obtain ⟨h5, h6, h28, hb, hw⟩ := h
  have r20 : l.length % 20 < 20 := Nat.mod_lt _ (by decide)
  have p480 : 20 * (l.length / 20) + 20 ≤ 500 := by omega
  have ln : l.length = 20 * (l.length / 20) + l.length % 20 := by omega
  have n4 := i_or8 (w (l.length % 20 / 4)) hc
  generalize ((w (l.length % 20 / 4) <<< ((8 : Int32) &&& 31)) ||| nI c) = v at n4 ⊢
  have g5 : upd (upd (upd w (l.length % 20 / 4) v) 5 (nI (l.length % 20 + 1))) 6 (nI (l.length + 1)) 5 = nI (l.length % 20 + 1) := by rw [pk_un (by decide), pk_us]
  have ll : (l ++ [c]).length = l.length + 1 := by rw [List.length_append]; rfl
  have C : ∀ t, t < l.length % 20 + 1 → (upd (upd (upd w (l.length % 20 / 4) v) 5 (nI (l.length % 20 + 1))) 6 (nI (l.length + 1)) (t / 4)).toBitVec.toNat / 256 ^ (min (l.length % 20) (t / 4 * 4 + 3) - t) % 256 = (l ++ [c]).getD (20 * (l.length / 20) + t) 0 := fun t ht => by
    rw [pk_un (by omega), pk_un (by omega), gd_1]
    by_cases e : t = l.length % 20
    · rw [if_pos (by omega), e, pk_us, n4, show min (l.length % 20) (l.length % 20 / 4 * 4 + 3) - l.length % 20 = 0 by omega]
      omega
    · have o := hw t (by omega)
      rw [if_neg (by omega), ← o]
      by_cases d : t / 4 = l.length % 20 / 4
      · rw [d, pk_us, n4]
        rcases (by omega : l.length % 20 = t + 1 ∨ l.length % 20 = t + 2 ∨ l.length % 20 = t + 3) with z | z | z
        · rw [show min (l.length % 20) (l.length % 20 / 4 * 4 + 3) - t = 1 by omega, show min (l.length % 20 - 1) (l.length % 20 / 4 * 4 + 3) - t = 0 by omega]
          omega
        · rw [show min (l.length % 20) (l.length % 20 / 4 * 4 + 3) - t = 2 by omega, show min (l.length % 20 - 1) (l.length % 20 / 4 * 4 + 3) - t = 1 by omega]
          omega
        · rw [show min (l.length % 20) (l.length % 20 / 4 * 4 + 3) - t = 3 by omega, show min (l.length % 20 - 1) (l.length % 20 / 4 * 4 + 3) - t = 2 by omega]
          omega
      · rw [pk_un d, show min (l.length % 20) (t / 4 * 4 + 3) = min (l.length % 20 - 1) (t / 4 * 4 + 3) by omega]
  have T : ∀ i, i < 20 * (l.length / 20) → bN (σ.2.2.1 19) i = (l ++ [c]).getD i 0 := fun i hi => by
    rw [gd_1, if_neg (by omega)]; exact hb i hi
  have g6 : upd (upd (upd w (l.length % 20 / 4) v) 5 (nI (l.length % 20 + 1))) 6 (nI (l.length + 1)) 6 = nI (l.length + 1) := pk_us
  rw [g5]
  generalize upd (upd (upd w (l.length % 20 / 4) v) 5 (nI (l.length % 20 + 1))) 6 (nI (l.length + 1)) = w' at C g5 g6 ⊢
  by_cases q : l.length % 20 = 19
  · obtain ⟨σ', e, s1, s2, s3⟩ := f_20 w' p480 h28
    rw [if_pos (show nI (l.length % 20 + 1) = 20 by rw [q]; rfl), e, bd_s]
    refine ⟨upd w' 5 0, σ', rfl, ?_, ?_, ?_, ?_, ?_⟩
    · rw [ll, show (l.length + 1) % 20 = 0 by omega, pk_us, nI_0]
    · rw [ll, pk_un (by decide)]; exact g6
    · rw [ll, show 20 * ((l.length + 1) / 20) = 20 * (l.length / 20) + 20 by omega]; exact s1
    · rw [ll, show 20 * ((l.length + 1) / 20) = 20 * (l.length / 20) + 20 by omega]
      intro i hi
      by_cases z : i < 20 * (l.length / 20)
      · rw [s2 i z]; exact T i z
      · have a := s3 (i - 20 * (l.length / 20)) (by omega)
        have b := C (i - 20 * (l.length / 20)) (by omega)
        rw [show 20 * (l.length / 20) + (i - 20 * (l.length / 20)) = i by omega] at a b
        rw [a, ← b, show min (l.length % 20) ((i - 20 * (l.length / 20)) / 4 * 4 + 3) = (i - 20 * (l.length / 20)) / 4 * 4 + 3 by omega]
    · rw [ll, show (l.length + 1) % 20 = 0 by omega]
      intro t ht
      exact absurd ht (Nat.not_lt_zero _)
  · rw [if_neg (show ¬ nI (l.length % 20 + 1) = (20 : Int32) from fun z => q (by have := (nI_eq (b := 20) (by omega) (by decide)).mp z; omega))]
    refine ⟨_, _, rfl, ?_, ?_, ?_, ?_, ?_⟩
    · rw [ll, show (l.length + 1) % 20 = l.length % 20 + 1 by omega]; exact g5
    · rw [ll]; exact g6
    · rw [ll, show (l.length + 1) / 20 = l.length / 20 by omega]; exact h28
    · rw [ll, show (l.length + 1) / 20 = l.length / 20 by omega]; exact T
    · rw [ll, show (l.length + 1) % 20 = l.length % 20 + 1 by omega, show (l.length + 1) / 20 = l.length / 20 by omega]
      exact C
/-- some bytes, one behind the other -/
def puts : List Int32 → (Nat → Int32) → k_SB → Option ((Nat → Int32) × k_SB)
  | [], w, σ => some (w, σ)
  | c :: l, w, σ => bd (f_L_put c w σ) fun t => puts l t.1 t.2
theorem puts_ap (b : List Int32) : ∀ (a : List Int32) (w : Nat → Int32) (σ : k_SB), puts (a ++ b) w σ = bd (puts a w σ) fun t => puts b t.1 t.2
  | [], w, σ => rfl
  | c :: a, w, σ => by
    show bd (f_L_put c w σ) (fun t => puts (a ++ b) t.1 t.2) = bd (bd (f_L_put c w σ) fun t => puts a t.1 t.2) _
    rw [bd_as]
    congr 1
    funext t
    exact puts_ap b a t.1 t.2
theorem puts_1 (c : Int32) (w : Nat → Int32) (σ : k_SB) : f_L_put c w σ = puts [c] w σ := (bd_eta _).symm
theorem puts_PT : ∀ (bs : List Nat) (l : List Nat) (w : Nat → Int32) (σ : k_SB), PT l w σ → (∀ b, b ∈ bs → b < 256) → l.length + bs.length ≤ 480 → ∃ w' σ', puts (bs.map nI) w σ = some (w', σ') ∧ PT (l ++ bs) w' σ'
  | [], l, w, σ, h, _, _ => ⟨w, σ, rfl, by rw [List.append_nil]; exact h⟩
  | b :: bs, l, w, σ, h, hb, hl => by
    rw [List.length_cons] at hl
    obtain ⟨w1, σ1, e, p⟩ := put_1 h (hb b List.mem_cons_self) (by omega)
    obtain ⟨w2, σ2, e2, p2⟩ := puts_PT bs (l ++ [b]) w1 σ1 p (fun x hx => hb x (List.mem_cons_of_mem _ hx)) (by rw [List.length_append]; show l.length + 1 + bs.length ≤ 480; omega)
    refine ⟨w2, σ2, ?_, ?_⟩
    · show bd (f_L_put (nI b) w σ) _ = _
      rw [e, bd_s]; exact e2
    · rw [List.append_assoc] at p2; exact p2
/-- the bytes of a word said at once -/
def sayB (x : Int64) : Nat → List Int32
  | 0 => []
  | k + 1 => if (lg_cmp ((x >>> ((nI (8 * k)).toInt64 &&& 63)) &&& (255 : Int64)) (0 : Int64)) = 0 then sayB x k else ((x >>> ((nI (8 * k)).toInt64 &&& 63)) &&& (255 : Int64)).toInt32 :: sayB x k
theorem say_l (x : Int64) : ∀ (f k : Nat) (w : Nat → Int32) (σ : k_SB), k ≤ 8 → k < f → f_L_say_4 f x (nI (8 * k) + (-8)) w σ = puts (sayB x k) w σ
  | 0, _, _, _, _, h => absurd h (Nat.not_lt_zero _)
  | f + 1, 0, w, σ, _, _ => by rw [f_L_say_4, if_pos (show nI (8 * 0) + (-8) < 0 by decide)]; rfl
  | f + 1, k + 1, w, σ, hk, hf => by
    have k8 : nI (8 * (k + 1)) + (-8) = nI (8 * k) := by
      rw [show 8 * (k + 1) = 8 * k + 8 by omega, ← nI_add]
      show (nI (8 * k) + 8) + (-8) = nI (8 * k)
      grobner
    have ih := fun w σ => say_l x f k w σ (by omega) (by omega)
    rw [f_L_say_4, k8, if_neg (nI_pos (by omega)), sayB]
    by_cases z : (lg_cmp ((x >>> ((nI (8 * k)).toInt64 &&& 63)) &&& (255 : Int64)) (0 : Int64)) = 0
    · rw [if_pos z, if_pos z, f_L_say_36]; exact ih w σ
    · rw [if_neg z, if_neg z]
      show _ = bd (f_L_put _ w σ) _
      congr 1
      funext t
      rw [f_L_say_36]
      exact ih t.1 t.2
theorem say_c {x : Int64} {bs : List Nat} (h : sayB x 8 = bs.map nI) (w : Nat → Int32) (σ : k_SB) : f_L_say x w σ = puts (bs.map nI) w σ := by
  rw [f_L_say, ← h]; exact say_l x kFU 8 w σ (by decide) (by unfold kFU; omega)
/-- a number's digits -/
def dgs (v : Nat) : List Nat := if v < 10 then [48 + v] else if v < 100 then [48 + v / 10, 48 + v % 10] else [48 + v / 100, 48 + v / 10 % 10, 48 + v % 10]
theorem num_d {v by_ : Nat} (hv : v < 1000) (hb : 0 < by_) (h2 : by_ < 1000) : (48 : Int32) + ((nI v / nI by_) - (nI v / nI by_) / (10 : Int32) * (10 : Int32)) = nI (48 + v / by_ % 10) := by
  have l : v / by_ ≤ v := Nat.div_le_self _ _
  rw [pk_div (by omega) hb (by omega), show nI (v / by_) - nI (v / by_) / (10 : Int32) * (10 : Int32) = nI (v / by_ % 10) from pk_rem (by omega) (by decide) (by decide)]
  exact nI_add 48 _
theorem num_1 {v : Nat} (hv : v < 1000) (f : Nat) (w : Nat → Int32) (σ : k_SB) : f_L_number_49 (f + 2) (nI v) (1 : Int32) w σ = puts [nI (48 + v % 10)] w σ := by
  rw [f_L_number_49, if_neg (by decide), gd_t _ (by decide), show (1 : Int32) = nI 1 from rfl, num_d hv (by decide) (by decide), Nat.div_one]
  show _ = bd (f_L_put _ w σ) _
  congr 1
theorem num_10 {v : Nat} (hv : v < 1000) (f : Nat) (w : Nat → Int32) (σ : k_SB) : f_L_number_49 (f + 3) (nI v) (10 : Int32) w σ = puts [nI (48 + v / 10 % 10), nI (48 + v % 10)] w σ := by
  rw [f_L_number_49, if_neg (by decide), gd_t _ (by decide), show (48 : Int32) + ((nI v / (10 : Int32)) - (nI v / (10 : Int32)) / (10 : Int32) * (10 : Int32)) = nI (48 + v / 10 % 10) from num_d (by_ := 10) hv (by decide) (by decide)]
  show _ = bd (f_L_put _ w σ) _
  congr 1
  funext t
  rw [lt_q, show (10 : Int32) / (10 : Int32) = 1 by decide]
  exact num_1 hv f _ _
theorem num_100 {v : Nat} (hv : v < 1000) (f : Nat) (w : Nat → Int32) (σ : k_SB) : f_L_number_49 (f + 4) (nI v) (100 : Int32) w σ = puts [nI (48 + v / 100 % 10), nI (48 + v / 10 % 10), nI (48 + v % 10)] w σ := by
  rw [f_L_number_49, if_neg (by decide), gd_t _ (by decide), show (48 : Int32) + ((nI v / (100 : Int32)) - (nI v / (100 : Int32)) / (10 : Int32) * (10 : Int32)) = nI (48 + v / 100 % 10) from num_d (by_ := 100) hv (by decide) (by decide)]
  show _ = bd (f_L_put _ w σ) _
  congr 1
  funext t
  rw [lt_q, show (100 : Int32) / (10 : Int32) = 10 by decide]
  exact num_10 hv f _ _
theorem say_n {v : Nat} (hv : v < 1000) (w : Nat → Int32) (σ : k_SB) : f_L_number (nI v) w σ = puts ((dgs v).map nI) w σ := by
  rw [f_L_number, if_pos (nI_pos' (by omega)), f_L_number_11, if_pos (nI_pos' (by omega)), f_L_number_21, show kFU = 99996 + 4 from rfl, f_L_number_27, if_neg (by decide), if_neg (show ¬ (1000 : Int32) ≤ nI v from nI_ge (b := 1000) hv (by decide)), lt_q, show (1000 : Int32) / (10 : Int32) = 100 by decide, f_L_number_27, if_neg (by decide)]
  unfold dgs
  by_cases a : v < 10
  · rw [if_pos a, if_neg (show ¬ (100 : Int32) ≤ nI v from nI_ge (b := 100) (by omega) (by decide)), lt_q, show (100 : Int32) / (10 : Int32) = 10 by decide, f_L_number_27, if_neg (by decide), if_neg (show ¬ (10 : Int32) ≤ nI v from nI_ge (b := 10) (by omega) (by decide)), lt_q, show (10 : Int32) / (10 : Int32) = 1 by decide, f_L_number_27, if_pos (by decide)]
    have := num_1 hv 99998 w σ
    rw [Nat.mod_eq_of_lt a] at this
    exact this
  · rw [if_neg a]
    by_cases b : v < 100
    · rw [if_pos b, if_neg (show ¬ (100 : Int32) ≤ nI v from nI_ge (b := 100) (by omega) (by decide)), lt_q, show (100 : Int32) / (10 : Int32) = 10 by decide, f_L_number_27, if_neg (by decide), if_pos (show (10 : Int32) ≤ nI v from nI_le (a := 10) (by omega) (by omega))]
      have := num_10 hv 99997 w σ
      rw [Nat.mod_eq_of_lt (show v / 10 < 10 by omega)] at this
      exact this
    · rw [if_neg b, if_pos (show (100 : Int32) ≤ nI v from nI_le (a := 100) (by omega) (by omega))]
      have := num_100 hv 99996 w σ
      rw [Nat.mod_eq_of_lt (show v / 100 < 10 by omega)] at this
      exact this
theorem say_b {v : Nat} (hv : v < 1000) (w : Nat → Int32) (σ : k_SB) : f_L_below (nI v) w σ = puts ((dgs v).map nI) w σ := by
  rw [f_L_below, if_pos (nI_pos' (by omega)), bd_eta, say_n hv]
theorem say_m {v : Nat} (h0 : 1 ≤ v) (hv : v < 1000) (w : Nat → Int32) (σ : k_SB) : f_L_below (-nI v) w σ = puts ((45 :: dgs v).map nI) w σ := by
  have ne : ¬ 0 ≤ -nI v := by
    rw [Int32.le_iff_toInt_le, (ib_neg (x := nI v) (A := 1000) (by show (nI v).toInt.natAbs ≤ 1000; rw [nI_toInt (by omega), Int.natAbs_natCast]; omega) (by decide)).1, nI_toInt (by omega)]
    show ¬ (0 : Int) ≤ _
    omega
  rw [f_L_below, if_neg ne]
  show _ = bd (f_L_put (nI 45) w σ) _
  show bd (f_L_put (45 : Int32) w σ) _ = bd (f_L_put (45 : Int32) w σ) _
  congr 1
  funext t
  rw [show -(-nI v) = nI v by grobner, bd_eta, say_n hv]
theorem gd_ap : ∀ (l b : List Nat) (i : Nat), i < l.length → (l ++ b).getD i 0 = l.getD i 0
  | [], _, _, h => absurd h (Nat.not_lt_zero _)
  | _ :: _, _, 0, _ => rfl
  | _ :: l, b, i + 1, h => gd_ap l b i (Nat.lt_of_succ_lt_succ h)
/-- all is on the tape, filled with blanks -/
theorem said_l {n : Nat} : ∀ (f m : Nat) (l : List Nat) (w : Nat → Int32) (σ : k_SB), PT l w σ → (20 - l.length % 20) % 20 = m → m < f → l.length + m ≤ 480 → ∃ w' σ', f_L_said_5 f (nI n) w σ = some (nI n, w', σ') ∧ PT (l ++ List.replicate m 32) (upd w' 6 (nI (l.length + m))) σ'
  | 0, _, _, _, _, _, _, h, _ => absurd h (Nat.not_lt_zero _)
  | f + 1, m, l, w, σ, h, hm, hf, hl => by
    rw [f_L_said_5, gd_t _ (by decide), b5r, h.1]
    by_cases q : l.length % 20 = 0
    · rw [q, if_pos (show nI 0 ≤ 0 by decide), gd_t _ (by decide), lt_q, b6r]
      obtain rfl : m = 0 := by omega
      refine ⟨_, _, rfl, ?_⟩
      rw [List.replicate_zero, List.append_nil, Nat.add_zero]
      refine ⟨?_, pk_us, h.2.2.1, h.2.2.2.1, fun t ht => by omega⟩
      rw [pk_un (by decide), pk_un (by decide)]; exact h.1
    · rw [if_neg (nI_nle (by omega) (by omega))]
      obtain ⟨m', rfl⟩ : ∃ m', m = m' + 1 := ⟨m - 1, by omega⟩
      obtain ⟨w1, σ1, e, p⟩ := put_1 h (show 32 < 256 by decide) (by omega)
      have ll : (l ++ [32]).length = l.length + 1 := by rw [List.length_append]; rfl
      obtain ⟨w2, σ2, e2, p2⟩ := said_l f m' (l ++ [32]) w1 σ1 p (by rw [ll]; omega) (by omega) (by rw [ll]; omega)
      rw [show (32 : Int32) = nI 32 from rfl, e, bd_s]
      refine ⟨w2, σ2, e2, ?_⟩
      rw [ll, List.append_assoc] at p2
      rw [show l.length + (m' + 1) = l.length + 1 + m' by omega]
      exact p2
theorem said_1 {l : List Nat} {w : Nat → Int32} {σ : k_SB} (h : PT l w σ) (hl : l.length ≤ 460) : ∃ w' σ' e, f_L_said w σ = some (nI l.length, w', σ') ∧ l.length ≤ e ∧ e ≤ 480 ∧ σ'.1 28 = nI e ∧ ∀ i, i < l.length → bN (σ'.2.2.1 19) i = l.getD i 0 := by
  have m20 : (20 - l.length % 20) % 20 < 20 := Nat.mod_lt _ (by decide)
  obtain ⟨w', σ', e, p⟩ := said_l (n := l.length) kFU _ l w σ h rfl (by unfold kFU; omega) (by omega)
  refine ⟨w', σ', l.length + (20 - l.length % 20) % 20, ?_, by omega, by omega, ?_, fun i hi => ?_⟩
  · rw [f_L_said, gd_t _ (by decide), b6r, lt_q, h.2.1]; exact e
  · have a := p.2.2.1
    rw [List.length_append, List.length_replicate] at a
    rw [a]; congr 1; omega
  · have a := p.2.2.2.1 i (by rw [List.length_append, List.length_replicate]; omega)
    rw [a]
    exact gd_ap l _ i hi
