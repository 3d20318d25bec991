/-! WHAT THE LAW SAYS, byte by byte, onto the tape -/
theorem bd_eta {α β : Type} (x : Option (α × β)) : bd x (fun t => some (t.1, t.2)) = x := by cases x <;> rfl
theorem bd_as {α β γ : Type} (x : Option α) (f : α → Option β) (g : β → Option γ) : bd (bd x f) g = bd x (fun t => bd (f t) g) := by cases x <;> rfl
/-- low bytes -/
theorem i_low (y : Int32) : ((y.toBitVec.toNat % 256 : Nat) : Int) = y.toInt % 256 := by
  have h : y.toInt = if 2 * y.toBitVec.toNat < 2 ^ 32 then (y.toBitVec.toNat : Int) else (y.toBitVec.toNat : Int) - ((2 ^ 32 : Nat) : Int) := BitVec.toInt_eq_toNat_cond y.toBitVec
  rw [h]
  split <;> omega
theorem i_bm (z : Int) : (z.bmod 256) % 256 = z % 256 := by
  unfold Int.bmod
  simp only
  split <;> omega
theorem i_b8 (z : Int32) : z.toInt8.toInt32.toBitVec.toNat % 256 = z.toBitVec.toNat % 256 := by
  have a := i_low z.toInt8.toInt32
  have b := i_low z
  rw [Int8.toInt_toInt32, Int32.toInt_toInt8] at a
  have c := i_bm z.toInt
  have d : z.toInt.bmod (2 ^ 8) = z.toInt.bmod 256 := rfl
  rw [d] at a
  omega
theorem i_sh (x s : Int32) (k : Nat) (hk : k = 0 ∨ k = 8 ∨ k = 16 ∨ k = 24) (hs : (s.toBitVec.smod 32).toNat = k) : (x >>> s).toBitVec.toNat % 256 = x.toBitVec.toNat / 2 ^ k % 256 := by
  have a := i_low (x >>> s)
  rw [pk_shr x s k hs, Int.shiftRight_eq_div_pow] at a
  have h : x.toInt = if 2 * x.toBitVec.toNat < 2 ^ 32 then (x.toBitVec.toNat : Int) else (x.toBitVec.toNat : Int) - ((2 ^ 32 : Nat) : Int) := BitVec.toInt_eq_toNat_cond x.toBitVec
  have l : x.toBitVec.toNat < 2 ^ 32 := x.toBitVec.isLt
  rw [h] at a
  rcases hk with rfl | rfl | rfl | rfl <;> split at a <;> omega
/-- a number onto the tape: its four bytes, the highest first -/
theorem x10_one {f p k : Nat} (hp : p < 500) (hk : k = 0 ∨ k = 8 ∨ k = 16 ∨ k = 24) (x : Int32) (tb : Nat → Int32) : ∃ b, f_X10_addNumber_3 (f + 1) x (nI k) (nI p) tb = f_X10_addNumber_3 f x (nI k + (-8)) (nI (p + 1)) (upd tb p b) ∧ b.toBitVec.toNat % 256 = x.toBitVec.toNat / 2 ^ k % 256 := by
  refine ⟨(x >>> (nI k &&& 31)).toInt8.toInt32, ?_, ?_⟩
  · rw [f_X10_addNumber_3, if_neg (nI_pos (by omega)), if_neg (nI_pos (by omega)), if_neg (show ¬ (500 : Int32) ≤ nI p from nI_ge (b := 500) hp (by decide)), lt_q, gd_t _ (nI_in hp (by decide)), lt_q, lt_q, nI_clamp (by omega), pk_vb, nI_1, f_X10_addNumber_49]
  · rw [i_b8]
    refine i_sh x _ k hk ?_
    rcases hk with rfl | rfl | rfl | rfl <;> decide
theorem x10_four {p : Nat} (hp : p + 4 ≤ 500) (x : Int32) (tb : Nat → Int32) : ∃ tb', f_X10_addNumber x (nI p) tb = some (nI (p + 4), tb') ∧ (∀ i, i < p → bN tb' i = bN tb i) ∧ (∀ i, i < 4 → bN tb' (p + i) = x.toBitVec.toNat / 256 ^ (3 - i) % 256) := by
  have k8 : ∀ k : Nat, nI (k + 8) + (-8) = nI k := fun k => by
    rw [← nI_add k 8]
    show (nI k + 8) + (-8) = nI k
    grobner
  obtain ⟨b0, e0, v0⟩ := x10_one (f := 99999) (p := p) (k := 24) (by omega) (by omega) x tb
  obtain ⟨b1, e1, v1⟩ := x10_one (f := 99998) (p := p + 1) (k := 16) (by omega) (by omega) x (upd tb p b0)
  obtain ⟨b2, e2, v2⟩ := x10_one (f := 99997) (p := p + 2) (k := 8) (by omega) (by omega) x (upd (upd tb p b0) (p + 1) b1)
  obtain ⟨b3, e3, v3⟩ := x10_one (f := 99996) (p := p + 3) (k := 0) (by omega) (by omega) x (upd (upd (upd tb p b0) (p + 1) b1) (p + 2) b2)
  refine ⟨upd (upd (upd (upd tb p b0) (p + 1) b1) (p + 2) b2) (p + 3) b3, ?_, fun i hi => ?_, fun i hi => ?_⟩
  · rw [f_X10_addNumber, show kFU = 99999 + 1 from rfl, show (24 : Int32) = nI 24 from rfl, e0, k8 16, e1, k8 8, e2, k8 0, e3, f_X10_addNumber_3, if_pos (show nI 0 + (-8) < 0 by decide)]
  · unfold bN
    rw [pk_un (by omega), pk_un (by omega), pk_un (by omega), pk_un (by omega)]
  · unfold bN
    rcases (by omega : i = 0 ∨ i = 1 ∨ i = 2 ∨ i = 3) with rfl | rfl | rfl | rfl
    · rw [pk_un (by omega), pk_un (by omega), pk_un (by omega), Nat.add_zero, pk_us]; exact v0
    · rw [pk_un (by omega), pk_un (by omega), pk_us]; exact v1
    · rw [pk_un (by omega), pk_us]; exact v2
    · rw [pk_us]; exact v3
/-- so much is said: what of it lies on the tape, what is packed -/
def PT (l : List Nat) (w : Nat → Int32) (σ : k_SB) : Prop :=
  w 5 = nI (l.length % 20) ∧ w 6 = nI l.length ∧ σ.1 28 = nI (20 * (l.length / 20)) ∧ (∀ i, i < 20 * (l.length / 20) → bN (σ.2.2.1 19) i = l.getD i 0) ∧ ∀ t, t < l.length % 20 → (w (t / 4)).toBitVec.toNat / 256 ^ (min (l.length % 20 - 1) (t / 4 * 4 + 3) - t) % 256 = l.getD (20 * (l.length / 20) + t) 0
theorem gd_c (b : Nat) (l : List Nat) (i : Nat) : (b :: l).getD (i + 1) 0 = l.getD i 0 := rfl
theorem gd_1 : ∀ (l : List Nat) (c i : Nat), (l ++ [c]).getD i 0 = if i = l.length then c else l.getD i 0
  | [], c, 0 => rfl
  | [], c, i + 1 => by rw [if_neg (by rw [List.length_nil]; omega)]; rfl
  | b :: l, c, 0 => by rw [if_neg (by rw [List.length_cons]; omega)]; rfl
  | b :: l, c, i + 1 => by
    show (l ++ [c]).getD i 0 = if i + 1 = l.length + 1 then c else l.getD i 0
    rw [gd_1 l c i]
    by_cases e : i = l.length
    · rw [if_pos e, if_pos (by omega)]
    · rw [if_neg e, if_neg (by omega)]
theorem i_or8 (x : Int32) {c : Nat} (hc : c < 256) : ((x <<< ((8 : Int32) &&& 31)) ||| nI c).toBitVec.toNat = 256 * (x.toBitVec.toNat % 2 ^ 24) + c := by
  have a := pk_shl x ((8 : Int32) &&& 31) 8 (by decide)
  show ((x <<< ((8 : Int32) &&& 31)).toBitVec ||| (nI c).toBitVec).toNat = _
  rw [BitVec.toNat_or, a, pk_tn (by omega)]
  rw [show x.toBitVec.toNat * 2 ^ 8 % 2 ^ 32 = 2 ^ 8 * (x.toBitVec.toNat % 2 ^ 24) by omega]
  exact (Nat.two_pow_add_eq_or_of_lt (i := 8) hc _).symm
theorem f_20 (w : Nat → Int32) {σ : k_SB} {p : Nat} (hp : p + 20 ≤ 500) (hl : σ.1 28 = nI p) : ∃ σ', f_L_flush w σ = some (upd w 5 0, σ') ∧ σ'.1 28 = nI (p + 20) ∧ (∀ i, i < p → bN (σ'.2.2.1 19) i = bN (σ.2.2.1 19) i) ∧ ∀ t, t < 20 → bN (σ'.2.2.1 19) (p + t) = (w (t / 4)).toBitVec.toNat / 256 ^ (t / 4 * 4 + 3 - t) % 256 := by
  obtain ⟨t1, e1, k1, v1⟩ := x10_four (p := p) (by omega) (w 0) (σ.2.2.1 19)
  obtain ⟨t2, e2, k2, v2⟩ := x10_four (p := p + 4) (by omega) (w 1) t1
  obtain ⟨t3, e3, k3, v3⟩ := x10_four (p := p + 4 + 4) (by omega) (w 2) t2
  obtain ⟨t4, e4, k4, v4⟩ := x10_four (p := p + 4 + 4 + 4) (by omega) (w 3) t3
  obtain ⟨t5, e5, k5, v5⟩ := x10_four (p := p + 4 + 4 + 4 + 4) (by omega) (w 4) t4
  have e : fx_feed (w 0) (w 1) (w 2) (w 3) (w 4) σ = some (nI (p + 4 + 4 + 4 + 4 + 4), nI (p + 4 + 4 + 4 + 4 + 4), t5) := by
    show f_X11_feed (w 0) (w 1) (w 2) (w 3) (w 4) (σ.1 28) (σ.2.2.1 19) = _
    rw [hl, f_X11_feed, f_X10_hasRoom, show nI p + (20 : Int32) = nI (p + 20) from nI_add p 20, if_neg (show ¬ (500 : Int32) < nI (p + 20) from nI_nlt (a := 500) hp (by decide)), bd_s, if_neg (by decide), e1, bd_s]
    simp only
    rw [e2, bd_s]
    simp only
    rw [e3, bd_s]
    simp only
    rw [e4, bd_s]
    simp only
    rw [e5, bd_s]
  refine ⟨ux_feed σ (nI (p + 4 + 4 + 4 + 4 + 4), nI (p + 4 + 4 + 4 + 4 + 4), t5), ?_, ?_, ?_, ?_⟩
  · rw [f_L_flush, gd_t _ (by decide), gd_t _ (by decide), gd_t _ (by decide), gd_t _ (by decide), gd_t _ (by decide)]
    show bd (fx_feed (w 0) (w 1) (w 2) (w 3) (w 4) σ) _ = _
    rw [e, bd_s, lt_q, gd_t _ (by decide), lt_q]
    rfl
  · rfl
  · intro i hi
    show bN t5 i = _
    rw [k5 i (by omega), k4 i (by omega), k3 i (by omega), k2 i (by omega), k1 i hi]
  · intro t ht
    show bN t5 (p + t) = _
    rcases (by omega : t / 4 = 0 ∨ t / 4 = 1 ∨ t / 4 = 2 ∨ t / 4 = 3 ∨ t / 4 = 4) with h | h | h | h | h
    · rw [h, k5 _ (by omega), k4 _ (by omega), k3 _ (by omega), k2 _ (by omega), v1 t (by omega)]
    · have := v2 (t - 4) (by omega)
      rw [show p + 4 + (t - 4) = p + t by omega, show 3 - (t - 4) = 1 * 4 + 3 - t by omega] at this
      rw [h, k5 _ (by omega), k4 _ (by omega), k3 _ (by omega), this]
    · have := v3 (t - 8) (by omega)
      rw [show p + 4 + 4 + (t - 8) = p + t by omega, show 3 - (t - 8) = 2 * 4 + 3 - t by omega] at this
      rw [h, k5 _ (by omega), k4 _ (by omega), this]
    · have := v4 (t - 12) (by omega)
      rw [show p + 4 + 4 + 4 + (t - 12) = p + t by omega, show 3 - (t - 12) = 3 * 4 + 3 - t by omega] at this
      rw [h, k5 _ (by omega), this]
    · have := v5 (t - 16) (by omega)
      rw [show p + 4 + 4 + 4 + 4 + (t - 16) = p + t by omega, show 3 - (t - 16) = 4 * 4 + 3 - t by omega] at this
      rw [h, this]
