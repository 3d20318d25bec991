/-! THE LAW: its words and the small steps of its body -/
abbrev lw_K (G : k_G) (p : Program) (s : State) (m : MethodId) (b : Nat) (meth : Method) (c : Code) : Prop := k_C G p s m #[Value.ref b] meth c (fun q : Nat => s.heap.size ≤ q) code RL lw_tbl 7 ret meth.name
def lw_bo (x : Int32) : Int32 := if x = 0 then 0 else 1
theorem lw_cmp (x : Int64) : lg_cmp x x = 0 := by simp [lg_cmp]
abbrev lw_l (b hX hM q3 : Nat) (x4 : Int32) : List (Nat × Value) := [(0, .ref b), (1, .ref hX), (2, .ref hM), (3, .ref q3), (4, .int x4)]
section LW
variable {p : Program} {l : Launch} {e : Env} {s : State} {m : MethodId} {below : List Frame} {meth : Method} {c : Code} {H : Heap} {locs : List Loc} {cells slots : Nat} {Q : State → Prop} {G : k_G} {b L : Nat} {xs : Nat → Int32} {hX hM q3 : Nat} {x4 : Int32} {ls : Array Slot} {wX wM wO : va_W}
theorem lw_arg (C0 : lw_K G p s m b meth c) (hXs : va_X b L xs s s.heap) (hbl : b < s.heap.size) (hS : va_S (fun q : Nat => s.heap.size ≤ q) s.heap H locs) (hl : lv_has ls 7 (lw_l b hX hM q3 x4)) {rest : List Value} {pc : Nat} {n : Int} {k : Int32} (d0 : decode code pc = .ok (.aload_n 0, 1)) (d1 : decode code (pc + 1) = .ok (.iload 4, 2)) (d3 : decode code (pc + 3) = .ok (.iconst n, 1)) (hn : Int32.ofInt n = k) (d4 : decode code (pc + 4) = .ok (.iadd, 1)) (d5 : decode code (pc + 5) = .ok (.iaload, 1)) (hin : vp_in (x4 + k) L)
    (kk : W p l e room_1 s m #[Value.ref b] below meth c H locs cells slots Q (F0 m (pc + 6) ls (.int (xs (x4 + k).toNatClampNeg) :: rest))) : W p l e room_1 s m #[Value.ref b] below meth c H locs cells slots Q (F0 m pc ls rest) := by
  have hx := C0.1
  have hb := C0.2.1
  have hbA : ¬ (fun q : Nat => s.heap.size ≤ q) b := Nat.not_le.mpr hbl
  refine lv_aload_n hx hb d0 rfl (lv_at hl 0 rfl) ?_
  refine lv_iload hx hb d1 (lv_at hl 4 rfl) ?_
  refine lv_iconst (v := k) hx hb d3 hn ?_
  refine lv_iadd hx hb d4 ?_
  exact va_sld hx hb hXs hbl hbA hS hin d5 kk
theorem lw_bool (C0 : lw_K G p s m b meth c) {rest : List Value} {pc : Nat} {x : Int32} (d0 : decode code pc = .ok (.ifCond .eq 7, 3)) (d3 : decode code (pc + 3) = .ok (.iconst 1, 1)) (d4 : decode code (pc + 4) = .ok (.goto 4, 3)) (d7 : decode code (pc + 7) = .ok (.iconst 0, 1))
    (kk : W p l e room_1 s m #[Value.ref b] below meth c H locs cells slots Q (F0 m (pc + 8) ls (.int (lw_bo x) :: rest))) : W p l e room_1 s m #[Value.ref b] below meth c H locs cells slots Q (F0 m pc ls (.int x :: rest)) := by
  have hx := C0.1
  have hb := C0.2.1
  refine lv_if_eq (tgt := pc + 7) hx hb d0 (by omega) (fun h => ?_) (fun h => ?_)
  · rw [lw_bo, if_pos h] at kk
    exact lv_iconst (v := 0) hx hb d7 (by decide) kk
  · rw [lw_bo, if_neg h] at kk
    refine lv_iconst (v := 1) hx hb d3 (by decide) ?_
    exact lv_goto (tgt := pc + 8) hx hb d4 (by omega) kk
end LW
