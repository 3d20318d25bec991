/-! THE LAW: calls on a part of the world, whatever the rest -/
theorem k_mem {D : va_G} {cl : List vw_C} {ws : va_W} {H : Heap} (h : va_P D cl ws H) {q : Nat × va_E} (hq : q ∈ ws) : va_at D cl q H := by
  obtain ⟨k, hk⟩ := List.getElem?_of_mem hq
  exact h k q hk
theorem k_Pof {D : va_G} {cl : List vw_C} {ws : va_W} {H : Heap} (h : ∀ q ∈ ws, va_at D cl q H) : va_P D cl ws H := fun k q hk => h q (List.mem_of_getElem? hk)
theorem k_Psub {D : va_G} {cl : List vw_C} {ws ws' : va_W} {H : Heap} (h : va_P D cl ws H) (hs : ∀ q ∈ ws', q ∈ ws) : va_P D cl ws' H := k_Pof fun q hq => k_mem h (hs q hq)
theorem k_Dmem {A : Nat → Prop} {ws : va_W} (h : va_D A ws) {q : Nat × va_E} (hq : q ∈ ws) : A q.1 := by
  obtain ⟨k, hk⟩ := List.getElem?_of_mem hq
  exact h.2 k q hk
theorem k_gl {w1 w2 : va_W} {i : Nat} {p : Nat × va_E} (h : w1[i]? = some p) : (w1 ++ w2)[i]? = some p := by
  rw [List.getElem?_append_left (List.getElem?_eq_some_iff.mp h).1]; exact h
theorem k_gr {w1 w2 : va_W} {i : Nat} {p : Nat × va_E} (h : w2[i]? = some p) : (w1 ++ w2)[w1.length + i]? = some p := by
  rw [List.getElem?_append_right (Nat.le_add_right _ _), Nat.add_sub_cancel_left]; exact h
theorem kd_l {A : Nat → Prop} {w1 w2 : va_W} (h : va_D A (w1 ++ w2)) : va_D A w1 :=
  ⟨fun i j p q hi hj e => h.1 i j p q (k_gl hi) (k_gl hj) e, fun k q hk => h.2 k q (k_gl hk)⟩
theorem k_Dr {A : Nat → Prop} {w1 w2 : va_W} (h : va_D A (w1 ++ w2)) : va_D A w2 :=
  ⟨fun i j p q hi hj e => by have := h.1 _ _ p q (k_gr hi) (k_gr hj) e; omega, fun k q hk => h.2 _ q (k_gr hk)⟩
theorem k_Dx {A : Nat → Prop} {w1 w2 : va_W} (h : va_D A (w1 ++ w2)) : ∀ p ∈ w1, ∀ q ∈ w2, p.1 ≠ q.1 := by
  intro p hp q hq e
  obtain ⟨i, hi⟩ := List.getElem?_of_mem hp
  obtain ⟨j, hj⟩ := List.getElem?_of_mem hq
  have h1 := h.1 _ _ p q (k_gl hi) (k_gr hj) e
  have h2 := (List.getElem?_eq_some_iff.mp hi).1
  omega
theorem k_Dapp {A : Nat → Prop} {w1 w2 : va_W} (h1 : va_D A w1) (h2 : va_D A w2) (hx : ∀ p ∈ w1, ∀ q ∈ w2, p.1 ≠ q.1) : va_D A (w1 ++ w2) :=
  h1.app h2 (fun i j p q hi hj => hx p (List.mem_of_getElem? hi) q (List.mem_of_getElem? hj))
theorem k_rotD {A : Nat → Prop} {a b c : va_W} (h : va_D A ((a ++ b) ++ c)) : va_D A ((a ++ c) ++ b) := by
  have hab := kd_l h
  have x1 := k_Dx hab
  have x2 := k_Dx h
  refine k_Dapp (k_Dapp (kd_l hab) (k_Dr h) (fun p hp q hq => x2 p (List.mem_append_left _ hp) q hq)) (k_Dr hab) (fun p hp q hq e => ?_)
  rcases List.mem_append.mp hp with hp | hp
  · exact x1 p hp q hq e
  · exact x2 q (List.mem_append_right _ hq) p hp e.symm
theorem k_rotP {D : va_G} {cl : List vw_C} {H : Heap} {a b c : va_W} (h : va_P D cl ((a ++ b) ++ c) H) : va_P D cl ((a ++ c) ++ b) H := by
  refine k_Psub h (fun q hq => ?_)
  simp only [List.mem_append] at hq ⊢
  rcases hq with (hq | hq) | hq
  · exact Or.inl (Or.inl hq)
  · exact Or.inr hq
  · exact Or.inl (Or.inr hq)
theorem k_Pl {D : va_G} {cl : List vw_C} {H : Heap} {a b : va_W} (h : va_P D cl (a ++ b) H) : va_P D cl a H := k_Psub h (fun _ hq => List.mem_append_left _ hq)
theorem k_Pr {D : va_G} {cl : List vw_C} {H : Heap} {a b : va_W} (h : va_P D cl (a ++ b) H) : va_P D cl b H := k_Psub h (fun _ hq => List.mem_append_right _ hq)
theorem k_fr {A : Nat → Prop} {wc : va_W} {H0 H : Heap} {locs : List Loc} (hD : va_D A wc) (hS : va_S A H0 H locs) (hA : ∀ q, H0.size ≤ q → A q) : ∀ q, va_A wc H.size q → A q := by
  intro q h
  rcases h with ⟨k, e, h⟩ | h
  · exact hD.2 k (q, e) h
  · exact hA q (Nat.le_trans hS.1 h)
theorem k_join {D : va_G} {cl : List vw_C} {A : Nat → Prop} {wr wc w1 : va_W} {H H1 : Heap} (hP : va_P D cl (wr ++ wc) H) (hD : va_D A (wr ++ wc)) (hk : ∀ q : Nat, q < H.size → ¬ va_A wc H.size q → H1[q]? = H[q]?) (hF : ∀ q, va_A wc H.size q → A q) (hP1 : va_P D cl w1 H1) (hD1 : va_D (va_A wc H.size) w1) :
    va_P D cl (wr ++ w1) H1 ∧ va_D A (wr ++ w1) := by
  have hx := k_Dx hD
  have out : ∀ q ∈ wr, ¬ va_A wc H.size q.1 := by
    intro q hq h
    rcases h with ⟨k, e, h⟩ | h
    · exact hx q hq _ (List.mem_of_getElem? h) rfl
    · exact absurd (k_mem hP (List.mem_append_left _ hq)).lt (Nat.not_lt.mpr h)
  refine ⟨((k_Pl hP).kept (fun k q hq => ?_)).app hP1, k_Dapp (kd_l hD) (hD1.weaken (fun k q _ h => hF _ h)) (fun p hp q hq e => ?_)⟩
  · have hm := List.mem_of_getElem? hq
    exact hk q.1 (k_mem hP (List.mem_append_left _ hm)).lt (out q hm)
  · exact out p hp (by rw [e]; exact k_Dmem hD1 hq)
section LCALL
variable {G : k_G} {p : Program} {l : Launch} {e : Env} {R : Room} {s : State} {m : MethodId} {args : Array Value} {below : List Frame} {meth : Method} {c : Code} {H : Heap} {locs : List Loc} {cells slots : Nat} {Q : State → Prop} {A : Nat → Prop} {cc : ByteArray} {own nm : String} {wsW : List Cond} {nL : Nat} {ret : Option FieldType} {pc : Nat} {ls : Array Slot} {rest st0 : List Value} {wr wc : va_W}
variable {y : MethodName} {wsY : List Cond} {rm : Room} {bytes : ByteArray} {maxL mc ms n index : Nat} {retY : Option FieldType} {As : List Value} {C : String} {b : Addr} {ci : Nat} {fs : List Value} {qc : vw_C} {X : va_W → Prop}
theorem k_preA (C0 : k_C G p s m args meth c A cc own wsW nL ret nm) (hP : va_P G.1 vwCl wc H) (hD : va_D A wc) (hS : va_S A s.heap H locs) : PreS s H (va_Pc As (k_PC G wc H.size)) As :=
  ⟨k_blind, fun U hU hW => ⟨rfl, by rw [hU], by rw [hU]; exact hP, C0.2.2.2.2.2.2.2.2.1.call hS (k_fr hD hS C0.2.2.2.2.2.2.2.1) hU hW, hD.weaken (fun _ _ _ _ => trivial)⟩⟩
theorem lw_callVi {r0 : Int32} (C0 : k_C G p s m args meth c A cc own wsW nL ret nm) (hM : k_Di l G y wsY rm (.ref b :: As) wc H.size r0 X mc ms) (cw : CallW R s args own C index y bytes maxL retY wsY rm mc ms n) (hP : va_P G.1 vwCl (wr ++ wc) H) (hD : va_D A (wr ++ wc)) (hS : va_S A s.heap H locs)
    (hc : vwCl[ci]? = some qc) (hq : qc.1 = C) (he : wc[0]? = some (b, .inr (ci, fs))) (hn : As.length = n) (hsize : ls.size = nL) (hstack : st0 = As.reverse ++ .ref b :: rest) (hW : (rest.map fun v => v.category).sum ≤ 8) (hdg : decode cc pc = .ok (.invokevirtual index, 3)) (hf : cells + mc ≤ R.cells ∧ slots + ms ≤ R.slots)
    (kk : ∀ (u : va_W) (H1 : Heap) (locs1 : List Loc), X u → va_P G.1 vwCl (wr ++ u) H1 → va_D A (wr ++ u) → va_S A s.heap H1 locs1 → W p l e R s m args below meth c H1 locs1 (cells + mc) (slots + ms) Q (F0 m (pc + 3) ls (.int r0 :: rest))) : W p l e R s m args below meth c H locs cells slots Q (F0 m pc ls st0) := by
  have hPc := k_Pr hP
  have hDc := k_Dr hD
  have hFc := k_fr hDc hS C0.2.2.2.2.2.2.2.1
  have hpre := k_preA (As := .ref b :: As) C0 hPc hDc hS
  subst hq
  refine va_calli (va_runV (k_fix C0) hM cw ⟨hpre.1, va_recv C0.2.2.2.2.2.2.2.2.1.1 hPc hc he, hpre.2⟩ rfl hn hsize hstack (lv_room hW) hdg hf) hS (fun q _ h => hFc q h) hFc (fun r u t H1 locs1 ht hvm hw hB hz1 hk1 hS1 => ?_)
  obtain ⟨hw1, hw2⟩ := hw
  obtain ⟨hP1, hD1⟩ := hB
  rw [ht] at hP1
  rw [hw1]
  obtain ⟨a1, a2⟩ := k_join hP hD hk1 hFc hP1 hD1
  exact kk u H1 locs1 hw2 a1 a2 hS1
theorem lw_callVl {r0 : Int64} (C0 : k_C G p s m args meth c A cc own wsW nL ret nm) (hM : k_Dl l G y wsY rm (.ref b :: As) wc H.size r0 X mc ms) (cw : CallW R s args own C index y bytes maxL retY wsY rm mc ms n) (hP : va_P G.1 vwCl (wr ++ wc) H) (hD : va_D A (wr ++ wc)) (hS : va_S A s.heap H locs)
    (hc : vwCl[ci]? = some qc) (hq : qc.1 = C) (he : wc[0]? = some (b, .inr (ci, fs))) (hn : As.length = n) (hsize : ls.size = nL) (hstack : st0 = As.reverse ++ .ref b :: rest) (hW : (rest.map fun v => v.category).sum ≤ 8) (hdg : decode cc pc = .ok (.invokevirtual index, 3)) (hf : cells + mc ≤ R.cells ∧ slots + ms ≤ R.slots)
    (kk : ∀ (u : va_W) (H1 : Heap) (locs1 : List Loc), X u → va_P G.1 vwCl (wr ++ u) H1 → va_D A (wr ++ u) → va_S A s.heap H1 locs1 → W p l e R s m args below meth c H1 locs1 (cells + mc) (slots + ms) Q (F0 m (pc + 3) ls (.long r0 :: rest))) : W p l e R s m args below meth c H locs cells slots Q (F0 m pc ls st0) := by
  have hPc := k_Pr hP
  have hDc := k_Dr hD
  have hFc := k_fr hDc hS C0.2.2.2.2.2.2.2.1
  have hpre := k_preA (As := .ref b :: As) C0 hPc hDc hS
  subst hq
  refine va_calll (va_runV (k_fix C0) hM cw ⟨hpre.1, va_recv C0.2.2.2.2.2.2.2.2.1.1 hPc hc he, hpre.2⟩ rfl hn hsize hstack (lv_room hW) hdg hf) hS (fun q _ h => hFc q h) hFc (fun r u t H1 locs1 ht hvm hw hB hz1 hk1 hS1 => ?_)
  obtain ⟨hw1, hw2⟩ := hw
  obtain ⟨hP1, hD1⟩ := hB
  rw [ht] at hP1
  rw [hw1]
  obtain ⟨a1, a2⟩ := k_join hP hD hk1 hFc hP1 hD1
  exact kk u H1 locs1 hw2 a1 a2 hS1
/-- a maker -/
theorem lw_callIv (C0 : k_C G p s m args meth c A cc own wsW nL ret nm) (hM : k_Dv l G y wsY rm (.ref b :: As) wc H.size X mc ms) (cw : CallB R s args own index y bytes maxL none wsY rm mc ms n ∧ y.name = "<init>" ∧ (Cond.instanceMethod y).before args s = true) (hP : va_P G.1 vwCl (wr ++ wc) H) (hD : va_D A (wr ++ wc)) (hS : va_S A s.heap H locs)
    (hn : As.length = n) (hsize : ls.size = nL) (hstack : st0 = As.reverse ++ .ref b :: rest) (hW : (rest.map fun v => v.category).sum ≤ 8) (hdg : decode cc pc = .ok (.invokespecial index, 3)) (hf : cells + mc ≤ R.cells ∧ slots + ms ≤ R.slots)
    (kk : ∀ (u : va_W) (H1 : Heap) (locs1 : List Loc), X u → va_P G.1 vwCl (wr ++ u) H1 → va_D A (wr ++ u) → va_S A s.heap H1 locs1 → W p l e R s m args below meth c H1 locs1 (cells + mc) (slots + ms) Q (F0 m (pc + 3) ls rest)) : W p l e R s m args below meth c H locs cells slots Q (F0 m pc ls st0) := by
  have hPc := k_Pr hP
  have hDc := k_Dr hD
  have hFc := k_fr hDc hS C0.2.2.2.2.2.2.2.1
  refine va_callv (va_runI (k_fix C0) hM cw (k_preA (As := .ref b :: As) C0 hPc hDc hS) rfl hn hsize hstack (lv_room hW) hdg hf) hS (fun q _ h => hFc q h) hFc (fun u t H1 locs1 ht hvm hw hB hz1 hk1 hS1 => ?_)
  obtain ⟨hP1, hD1⟩ := hB
  rw [ht] at hP1
  obtain ⟨a1, a2⟩ := k_join hP hD hk1 hFc hP1 hD1
  exact kk u H1 locs1 hw a1 a2 hS1
end LCALL
