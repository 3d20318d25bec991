/-! FEED, LED, SIZE -/
def bb (p : Int32) (i : Nat) : Int32 := vp_nar .byte (p >>> (nI (24 - 8 * i) &&& 31)).toInt8.toInt32
theorem x10_add1 {p : Int32} {T i f : Nat} {w : Nat → Int32} (hT : T < 500) (hi : i < 4) : f_X10_addNumber_3 (f + 1) p (nI (24 - 8 * i)) (nI T) w = f_X10_addNumber_3 f p (nI (24 - 8 * i) + (-8 : Int32)) (nI (T + 1)) (upd w T (bb p i)) := by
  rw [f_X10_addNumber_3, if_neg (nI_pos (by omega)), if_neg (nI_pos (by omega)), if_neg (show ¬ (500 : Int32) ≤ nI T from nI_ge (b := 500) hT (by omega)), lt_q, gd_t _ (nI_in (by omega) (by omega)), lt_q, lt_q, nI_clamp (by omega), f_X10_addNumber_49, nI_1, bb]
theorem x10_add {p : Int32} {T : Nat} {w : Nat → Int32} (hT : T + 4 ≤ 500) : ∃ w', f_X10_addNumber p (nI T) w = some (nI (T + 4), w') ∧ (∀ j, j < T → w' j = w j) ∧ ∀ i, i < 4 → w' (T + i) = bb p i := by
  refine ⟨upd (upd (upd (upd w T (bb p 0)) (T + 1) (bb p 1)) (T + 2) (bb p 2)) (T + 3) (bb p 3), ?_, fun j hj => ?_, fun i hi => ?_⟩
  · rw [f_X10_addNumber, show kFU = 99995 + 1 + 1 + 1 + 1 + 1 from rfl, show (24 : Int32) = nI (24 - 8 * 0) from rfl, x10_add1 (by omega) (by omega), show nI (24 - 8 * 0) + (-8 : Int32) = nI (24 - 8 * 1) by decide, x10_add1 (by omega) (by omega), show nI (24 - 8 * 1) + (-8 : Int32) = nI (24 - 8 * 2) by decide, x10_add1 (by omega) (by omega), show nI (24 - 8 * 2) + (-8 : Int32) = nI (24 - 8 * 3) by decide, x10_add1 (by omega) (by omega), f_X10_addNumber_3, if_pos (by decide)]
  · rw [pk_un (by omega), pk_un (by omega), pk_un (by omega), pk_un (by omega)]
  · rcases (by omega : i = 0 ∨ i = 1 ∨ i = 2 ∨ i = 3) with rfl | rfl | rfl | rfl
    · rw [pk_un (by omega), pk_un (by omega), pk_un (by omega)]; exact pk_us
    · rw [pk_un (by omega), pk_un (by omega)]; exact pk_us
    · rw [pk_un (by omega)]; exact pk_us
    · exact pk_us
def bt (a b c d e : Int32) (k : Nat) : Int32 := bb (if k < 4 then a else if k < 8 then b else if k < 12 then c else if k < 16 then d else e) (k % 4)
