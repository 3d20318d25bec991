/-! ACTS, IMAGES (the class alone) -/
def upN (N : Nat → Nat) (s v : Nat) : Nat → Nat := fun j => if j = s then v else N j
theorem upN_s (N : Nat → Nat) (s v : Nat) : upN N s v s = v := if_pos rfl
theorem upN_n (N : Nat → Nat) {s v j : Nat} (h : j ≠ s) : upN N s v j = N j := if_neg h
section VACT
variable {c s A n' r' : Nat} {N R : Nat → Nat} {L W ch al ar il ir : Nat → Int32}
theorem SVx_put (h : SVx c N R L W) (hs : s < c) (h1 : 2 ≤ n') (h2 : n' ≤ 12) (h3 : r' < 2 ^ n') : SVx c (upN N s n') (upN R s r') (upd L s (nI n')) (upd W s (nI r')) := by
  refine ⟨h.1, fun t ht => ?_⟩
  by_cases e : t = s
  · subst e
    rw [upN_s, upN_s, pk_us, pk_us]
    exact ⟨h1, h2, h3, rfl, rfl⟩
  · rw [upN_n _ e, upN_n _ e, pk_un e, pk_un e]
    exact h.2 t ht
theorem v_keep (hA : A ≤ 15) (p1 p2 p3 : Int32) : ∃ o : (Nat → Int32) × (Nat → Int32) × (Nat → Int32), f_X0_keep p1 p2 p3 (nI A) ch al ar = some (nI (A + 1), o) := by
  refine ⟨(upd ch A p1, upd al A p3, upd ar A p2), ?_⟩
  rw [f_X0_keep, if_pos (show nI A < (16 : Int32) from nI_lt (b := 16) (by omega) (by decide)), f_X0_keep_13, x11_set (by decide) (by omega), bd_s, x11_set (by decide) (by omega), bd_s, x11_set (by decide) (by omega), bd_s, lt_q, nI_1]
theorem v_change (h : SVx c N R L W) (hs : s < c) (hA : A ≤ 15) (p2 p3 : Int32) : ∃ o : (Nat → Int32) × (Nat → Int32) × (Nat → Int32), f_X11_change (nI s) p2 p3 (nI A) ch al ar L W = some (nI (A + 1), o.1, o.2.1, o.2.2, upd L s p3, upd W s p2) := by
  obtain ⟨o, e⟩ := v_keep (ch := ch) (al := al) (ar := ar) hA (nI s) (nI (R s)) (nI (N s))
  exact ⟨o, by rw [f_X11_change, sv_r h hs, bd_s, sv_n h hs, bd_s, e, bd_s, x9_put (sv_5 h hs), bd_s]⟩
theorem v_slip (h : SVx c N R L W) (hs : s < c) (hA : A ≤ 15) {k : Nat} (hk : k < N s) (t : Int32) : ∃ o : (Nat → Int32) × (Nat → Int32) × (Nat → Int32), f_X11_slip (nI s) (nI k) t (nI A) (nI c) ch al ar L W = some (nI (rF (N s) (R s) k), 0, nI (A + 1), o.1, o.2.1, o.2.2, upd L s (nI (N s)), upd W s (nI (rF (N s) (R s) k))) := by
  have h2 := sv_2 h hs
  obtain ⟨o, e⟩ := v_change (ch := ch) (al := al) (ar := ar) h hs hA (nI (rF (N s) (R s) k)) (nI (N s))
  have g3 : nI (R s) ^^^ nI (2 ^ (N s - 1 - k)) = nI (rF (N s) (R s) k) := nI_xor _ _
  have rw1 : f_X9_row (nI s) (upd W s (nI (rF (N s) (R s) k))) = some (nI (rF (N s) (R s) k)) := by rw [x9_row (sv_5 h hs), pk_us]
  exact ⟨o, by rw [f_X11_slip, sv_l h hs, bd_s, if_pos rfl, sv_n h hs, bd_s, if_neg (nI_pos (by omega)), if_pos (nI_lt hk (by omega)), sv_r h hs, bd_s, x8_bit h2 hk, bd_s, g3, e, bd_s, rw1, bd_s, f_X11_granted, bd_s]⟩
theorem v_turn (h : SVx c N R L W) (hs : s < c) (hA : A ≤ 15) (t : Int32) : ∃ o : (Nat → Int32) × (Nat → Int32) × (Nat → Int32), f_X11_turn (nI s) t (nI A) (nI c) ch al ar L W = some (nI (rT (N s) (R s)), 0, nI (A + 1), o.1, o.2.1, o.2.2, upd L s (nI (N s)), upd W s (nI (rT (N s) (R s)))) := by
  obtain ⟨o, e⟩ := v_change (ch := ch) (al := al) (ar := ar) h hs hA (nI (rT (N s) (R s))) (nI (N s))
  have rw1 : f_X9_row (nI s) (upd W s (nI (rT (N s) (R s)))) = some (nI (rT (N s) (R s))) := by rw [x9_row (sv_5 h hs), pk_us]
  exact ⟨o, by rw [f_X11_turn, sv_l h hs, bd_s, if_pos rfl, sv_n h hs, bd_s, sv_r h hs, bd_s, x8_turned (sv_1 h hs) (sv_2 h hs) (sv_R h hs), bd_s, e, bd_s, rw1, bd_s, f_X11_granted, bd_s]⟩
theorem v_twin (h : SVx c N R L W) (hs : s < c) (hA : A ≤ 15) (t : Int32) : ∃ o : (Nat → Int32) × (Nat → Int32) × (Nat → Int32), f_X11_twin (nI s) t (nI A) (nI c) ch al ar L W = some (nI (rW (N s) (R s)), 0, nI (A + 1), o.1, o.2.1, o.2.2, upd L s (nI (N s)), upd W s (nI (rW (N s) (R s)))) := by
  obtain ⟨o, e⟩ := v_change (ch := ch) (al := al) (ar := ar) h hs hA (nI (rW (N s) (R s))) (nI (N s))
  have rw1 : f_X9_row (nI s) (upd W s (nI (rW (N s) (R s)))) = some (nI (rW (N s) (R s))) := by rw [x9_row (sv_5 h hs), pk_us]
  exact ⟨o, by rw [f_X11_twin, sv_l h hs, bd_s, if_pos rfl, sv_n h hs, bd_s, sv_r h hs, bd_s, x8_twinned (sv_1 h hs) (sv_2 h hs) (sv_R h hs), bd_s, e, bd_s, rw1, bd_s, f_X11_granted, bd_s]⟩
theorem v_grow (h : SVx c N R L W) (hs : s < c) (hA : A ≤ 15) (hn : N s < 12) {b : Nat} (hb : b ≤ 1) (t : Int32) : ∃ o : (Nat → Int32) × (Nat → Int32) × (Nat → Int32), f_X11_grow (nI s) (nI b) t (nI A) (nI c) ch al ar L W = some (nI (N s + 1), 0, nI (A + 1), o.1, o.2.1, o.2.2, upd L s (nI (N s + 1)), upd W s (nI (2 * R s + b))) := by
  obtain ⟨o, e⟩ := v_change (ch := ch) (al := al) (ar := ar) h hs hA (nI (2 * R s + b)) (nI (N s + 1))
  have e2 : nI (R s) * (2 : Int32) = nI (2 * R s) := by rw [show (2 : Int32) = nI 2 from rfl, pk_mul, Nat.mul_comm]
  have e3 : nI (N s) + (1 : Int32) = nI (N s + 1) := nI_1 _
  refine ⟨o, ?_⟩
  rw [f_X11_grow, sv_l h hs, bd_s, if_pos rfl, sv_n h hs, bd_s, if_pos (show nI (N s) < (12 : Int32) from nI_lt (b := 12) hn (by decide)), sv_r h hs, bd_s, e2]
  rcases (by omega : b = 0 ∨ b = 1) with rfl | rfl
  · rw [if_pos nI_0, f_X11_grow_58, show nI (2 * R s) + (0 : Int32) = nI (2 * R s + 0) from nI_add _ 0, e3, e, bd_s, f_X11_granted, bd_s]
  · rw [if_neg (by decide), f_X11_grow_58, show nI (2 * R s) + (1 : Int32) = nI (2 * R s + 1) from nI_add _ 1, e3, e, bd_s, f_X11_granted, bd_s]
theorem v_grow12 (h : SVx c N R L W) (hs : s < c) (hn : N s = 12) (p t a : Int32) : f_X11_grow (nI s) p t a (nI c) ch al ar L W = some (-1, 3, a, ch, al, ar, L, W) := by
  rw [f_X11_grow, sv_l h hs, bd_s, if_pos rfl, sv_n h hs, bd_s, hn, if_neg (by decide), f_X11_refused, bd_s]
theorem v_half {r : Nat} (hr : r < 4096) : nI r >>> ((1 : Int32) &&& 31) = nI (r / 2) := by
  have h := pk_shrN (n := r) (by omega) ((1 : Int32) &&& 31) 1 (by decide)
  rw [Nat.pow_one] at h
  exact h
theorem v_cut (h : SVx c N R L W) (hs : s < c) (hA : A ≤ 15) (hn : 2 < N s) (t : Int32) : ∃ o : (Nat → Int32) × (Nat → Int32) × (Nat → Int32), f_X11_cut (nI s) t (nI A) (nI c) ch al ar L W = some (nI (N s - 1), 0, nI (A + 1), o.1, o.2.1, o.2.2, upd L s (nI (N s - 1)), upd W s (nI (R s / 2))) := by
  have h2 := sv_2 h hs
  obtain ⟨o, e⟩ := v_change (ch := ch) (al := al) (ar := ar) h hs hA (nI (R s / 2)) (nI (N s - 1))
  exact ⟨o, by rw [f_X11_cut, sv_l h hs, bd_s, if_pos rfl, sv_n h hs, bd_s, if_pos (show (2 : Int32) < nI (N s) from nI_lt (a := 2) hn (by omega)), sv_r h hs, bd_s, v_half (r4096 h2 (sv_R h hs)), nI_m1 (by omega), e, bd_s, f_X11_granted, bd_s]⟩
theorem v_cut2 (h : SVx c N R L W) (hs : s < c) (hn : N s = 2) (t a : Int32) : f_X11_cut (nI s) t a (nI c) ch al ar L W = some (-1, 5, a, ch, al, ar, L, W) := by
  rw [f_X11_cut, sv_l h hs, bd_s, if_pos rfl, sv_n h hs, bd_s, hn, if_neg (by decide), f_X11_refused, bd_s]
theorem v_undo0 (t : Int32) : f_X11_undo t 0 ch al ar L W = some (0, 6, 0, L, W) := by rw [f_X11_undo, if_pos rfl]
theorem v_image (t : Int32) : ∃ il' ir' : Nat → Int32, f_X11_image t 0 1 il ir L W = some (0, 0, 1, il', ir') ∧ ∀ j, j < 5 → il' j = L j ∧ ir' j = W j := by
  obtain ⟨il', ir', e1, e2, -⟩ := x3_keep_2 (i := 0) (L := L) (R := W) (il := il) (ir := ir) (by decide) kFU 0 il ir (by decide) (by decide) (fun j hj => absurd hj (Nat.not_lt_zero _)) (fun j hj => ⟨rfl, rfl⟩)
  have e3 : f_X3_keep 0 L W il ir = some (0, 1, il', ir') := e1
  exact ⟨il', ir', by rw [f_X11_image, if_neg (by decide), if_pos (by decide), e3, bd_s, f_X11_granted, bd_s], fun j hj => by have := e2 j hj; rwa [Nat.mul_zero, Nat.zero_add] at this⟩
theorem v_back (t a : Int32) : ∃ L' W' : Nat → Int32, f_X11_back 0 t a 1 il ir L W = some (1, 0, 0, L', W') ∧ ∀ j, j < 5 → L' j = il j ∧ W' j = ir j := by
  obtain ⟨L', W', e1, e2⟩ := x3_bring_2 (i := 0) (L := L) (R := W) (il := il) (ir := ir) (by decide) kFU 0 L W (by decide) (by decide) (fun j hj => absurd hj (Nat.not_lt_zero _))
  have e3 : f_X3_bring 0 L W il ir = some (L', W') := e1
  exact ⟨L', W', by rw [f_X11_back, if_neg (by decide), if_pos (by decide), e3, bd_s], fun j hj => by have := e2 j hj; rwa [Nat.mul_zero, Nat.zero_add] at this⟩
theorem v_size7 (a i1 i2 i3 i4 i5 i6 i7 i8 i9 i10' : Int32) : f_X11_size 7 a i1 i2 i3 i4 i5 i6 i7 i8 i9 i10' = some a := by
  simp (decide := true) only [f_X11_size, if_false, if_true]
end VACT
