/-! THE LAW: calls on a part of the world, whatever the rest -/
theorem k_mem {D : va_G} {cl : List vw_C} {ws : va_W} {H : Heap} (h : va_P D cl ws H) {q : Nat × va_E} (hq : q ∈ ws) : va_at D cl q H := by
  obtain ⟨k, hk⟩ := List.getElem?_of_mem hq
  exact h k q hk
theorem k_Pof {D : va_G} {cl : List vw_C} {ws : va_W} {H : Heap} (h : ∀ q ∈ ws, va_at D cl q H) : va_P D cl ws H := fun k q hk => h q (List.mem_of_getElem? hk)
theorem k_Psub {D : va_G} {cl : List vw_C} {ws ws' : va_W} {H : Heap} (h : va_P D cl ws H) (hs : ∀ q ∈ ws', q ∈ ws) : va_P D cl ws' H := k_Pof fun q hq => k_mem h (hs q hq)
theorem k_Dmem {A : Nat → Prop} {ws : va_W} (h : va_D A ws) {q : Nat × va_E} (hq : q ∈ ws) : A q.1 := by
  obtain ⟨k, hk⟩ := List.getElem?_of_mem hq
  exact h.2 k q hk
theorem k_gl {w1 w2 : va_W} {i : Nat} {p : Nat × va_E} (h : w1[i]? = some p) : (w1 ++ w2)[i]? = some p := by
  rw [List.getElem?_append_left (List.getElem?_eq_some_iff.mp h).1]; exact h
theorem k_gr {w1 w2 : va_W} {i : Nat} {p : Nat × va_E} (h : w2[i]? = some p) : (w1 ++ w2)[w1.length + i]? = some p := by
  rw [List.getElem?_append_right (Nat.le_add_right _ _), Nat.add_sub_cancel_left]; exact h
theorem kd_l {A : Nat → Prop} {w1 w2 : va_W} (h : va_D A (w1 ++ w2)) : va_D A w1 :=
  ⟨fun i j p q hi hj e => h.1 i j p q (k_gl hi) (k_gl hj) e, fun k q hk => h.2 k q (k_gl hk)⟩
theorem k_Dr {A : Nat → Prop} {w1 w2 : va_W} (h : va_D A (w1 ++ w2)) : va_D A w2 :=
  ⟨fun i j p q hi hj e => by have := h.1 _ _ p q (k_gr hi) (k_gr hj) e; omega, fun k q hk => h.2 _ q (k_gr hk)⟩
theorem k_Dx {A : Nat → Prop} {w1 w2 : va_W} (h : va_D A (w1 ++ w2)) : ∀ p ∈ w1, ∀ q ∈ w2, p.1 ≠ q.1 := by
  intro p hp q hq e
  obtain ⟨i, hi⟩ := List.getElem?_of_mem hp
  obtain ⟨j, hj⟩ := List.getElem?_of_mem hq
  have h1 := h.1 _ _ p q (k_gl hi) (k_gr hj) e
  have h2 := (List.getElem?_eq_some_iff.mp hi).1
  omega
theorem k_Dapp {A : Nat → Prop} {w1 w2 : va_W} (h1 : va_D A w1) (h2 : va_D A w2) (hx : ∀ p ∈ w1, ∀ q ∈ w2, p.1 ≠ q.1) : va_D A (w1 ++ w2) :=
  h1.app h2 (fun i j p q hi hj => hx p (List.mem_of_getElem? hi) q (List.mem_of_getElem? hj))
theorem k_rotD {A : Nat → Prop} {a b c : va_W} (h : va_D A ((a ++ b) ++ c)) : va_D A ((a ++ c) ++ b) := by
  have hab := kd_l h
  have x1 := k_Dx hab
  have x2 := k_Dx h
  refine k_Dapp (k_Dapp (kd_l hab) (k_Dr h) (fun p hp q hq => x2 p (List.mem_append_left _ hp) q hq)) (k_Dr hab) (fun p hp q hq e => ?_)
  rcases List.mem_append.mp hp with hp | hp
  · exact x1 p hp q hq e
  · exact x2 q (List.mem_append_right _ hq) p hp e.symm
theorem k_rotP {D : va_G} {cl : List vw_C} {H : Heap} {a b c : va_W} (h : va_P D cl ((a ++ b) ++ c) H) : va_P D cl ((a ++ c) ++ b) H := by
  refine k_Psub h (fun q hq => ?_)
  simp only [List.mem_append] at hq ⊢
  rcases hq with (hq | hq) | hq
  · exact Or.inl (Or.inl hq)
  · exact Or.inr hq
  · exact Or.inl (Or.inr hq)
theorem k_Pl {D : va_G} {cl : List vw_C} {H : Heap} {a b : va_W} (h : va_P D cl (a ++ b) H) : va_P D cl a H := k_Psub h (fun _ hq => List.mem_append_left _ hq)
theorem k_Pr {D : va_G} {cl : List vw_C} {H : Heap} {a b : va_W} (h : va_P D cl (a ++ b) H) : va_P D cl b H := k_Psub h (fun _ hq => List.mem_append_right _ hq)
theorem k_fr {A : Nat → Prop} {wc : va_W} {H0 H : Heap} {locs : List Loc} (hD : va_D A wc) (hS : va_S A H0 H locs) (hA : ∀ q, H0.size ≤ q → A q) : ∀ q, va_A wc H.size q → A q := by
  intro q h
  rcases h with ⟨k, e, h⟩ | h
  · exact hD.2 k (q, e) h
  · exact hA q (Nat.le_trans hS.1 h)
theorem k_join {D : va_G} {cl : List vw_C} {A : Nat → Prop} {wr wc w1 : va_W} {H H1 : Heap} (hP : va_P D cl (wr ++ wc) H) (hD : va_D A (wr ++ wc)) (hk : ∀ q : Nat, q < H.size → ¬ va_A wc H.size q → H1[q]? = H[q]?) (hF : ∀ q, va_A wc H.size q → A q) (hP1 : va_P D cl w1 H1) (hD1 : va_D (va_A wc H.size) w1) :
    va_P D cl (wr ++ w1) H1 ∧ va_D A (wr ++ w1) := by
  have hx := k_Dx hD
  have out : ∀ q ∈ wr, ¬ va_A wc H.size q.1 := by
    intro q hq h
    rcases h with ⟨k, e, h⟩ | h
    · exact hx q hq _ (List.mem_of_getElem? h) rfl
    · exact absurd (k_mem hP (List.mem_append_left _ hq)).lt (Nat.not_lt.mpr h)
  refine ⟨((k_Pl hP).kept (fun k q hq => ?_)).app hP1, k_Dapp (kd_l hD) (hD1.weaken (fun k q _ h => hF _ h)) (fun p hp q hq e => ?_)⟩
  · have hm := List.mem_of_getElem? hq
    exact hk q.1 (k_mem hP (List.mem_append_left _ hm)).lt (out q hm)
  · exact out p hp (by rw [e]; exact k_Dmem hD1 hq)
section LCALL
variable {G : k_G} {p : Program} {l : Launch} {e : Env} {R : Room} {s : State} {m : MethodId} {args : Array Value} {below : List Frame} {meth : Method} {c : Code} {H : Heap} {locs : List Loc} {cells slots : Nat} {Q : State → Prop} {A : Nat → Prop} {cc : ByteArray} {own nm : String} {wsW : List Cond} {nL : Nat} {ret : Option FieldType} {pc : Nat} {ls : Array Slot} {rest st0 : List Value} {wr wc : va_W}
variable {y : MethodName} {wsY : List Cond} {rm : Room} {bytes : ByteArray} {maxL mc ms n index : Nat} {retY : Option FieldType} {As : List Value} {C : String} {b : Addr} {ci : Nat} {fs : List Value} {qc : vw_C} {X : va_W → Prop}
theorem k_preA (C0 : k_C G p s m args meth c A cc own wsW nL ret nm) (hP : va_P G.1 vwCl wc H) (hD : va_D A wc) (hS : va_S A s.heap H locs) : PreS s H (va_Pc As (k_PC G wc H.size)) As :=
  ⟨k_blind, fun U hU hW => ⟨rfl, by rw [hU], by rw [hU]; exact hP, C0.2.2.2.2.2.2.2.2.1.call hS (k_fr hD hS C0.2.2.2.2.2.2.2.1) hU hW, hD.weaken (fun _ _ _ _ => trivial)⟩⟩
theorem lw_callVi {r0 : Int32} (C0 : k_C G p s m args meth c A cc own wsW nL ret nm) (hM : k_Di l G y wsY rm (.ref b :: As) wc H.size r0 X mc ms) (cw : CallW R s args own C index y bytes maxL retY wsY rm mc ms n) (hP : va_P G.1 vwCl (wr ++ wc) H) (hD : va_D A (wr ++ wc)) (hS : va_S A s.heap H locs)
    (hc : vwCl[ci]? = some qc) (hq : qc.1 = C) (he : wc[0]? = some (b, .inr (ci, fs))) (hn : As.length = n) (hsize : ls.size = nL) (hstack : st0 = As.reverse ++ .ref b :: rest) (hW : (rest.map fun v => v.category).sum ≤ 8) (hdg : decode cc pc = .ok (.invokevirtual index, 3)) (hf : cells + mc ≤ R.cells ∧ slots + ms ≤ R.slots)
    (kk : ∀ (u : va_W) (H1 : Heap) (locs1 : List Loc), X u → va_P G.1 vwCl (wr ++ u) H1 → va_D A (wr ++ u) → va_S A s.heap H1 locs1 → W p l e R s m args below meth c H1 locs1 (cells + mc) (slots + ms) Q (F0 m (pc + 3) ls (.int r0 :: rest))) : W p l e R s m args below meth c H locs cells slots Q (F0 m pc ls st0) := by
  have hPc := k_Pr hP
  have hDc := k_Dr hD
  have hFc := k_fr hDc hS C0.2.2.2.2.2.2.2.1
  have hpre := k_preA (As := .ref b :: As) C0 hPc hDc hS
  subst hq
  refine va_calli (va_runV (k_fix C0) hM cw ⟨hpre.1, va_recv C0.2.2.2.2.2.2.2.2.1.1 hPc hc he, hpre.2⟩ rfl hn hsize hstack (lv_room hW) hdg hf) hS (fun q _ h => hFc q h) hFc (fun r u t H1 locs1 ht hvm hw hB hz1 hk1 hS1 => ?_)
  obtain ⟨hw1, hw2⟩ := hw
  obtain ⟨hP1, hD1⟩ := hB
  rw [ht] at hP1
  rw [hw1]
  obtain ⟨a1, a2⟩ := k_join hP hD hk1 hFc hP1 hD1
  exact kk u H1 locs1 hw2 a1 a2 hS1
theorem lw_callVl {r0 : Int64} (C0 : k_C G p s m args meth c A cc own wsW nL ret nm) (hM : k_Dl l G y wsY rm (.ref b :: As) wc H.size r0 X mc ms) (cw : CallW R s args own C index y bytes maxL retY wsY rm mc ms n) (hP : va_P G.1 vwCl (wr ++ wc) H) (hD : va_D A (wr ++ wc)) (hS : va_S A s.heap H locs)
    (hc : vwCl[ci]? = some qc) (hq : qc.1 = C) (he : wc[0]? = some (b, .inr (ci, fs))) (hn : As.length = n) (hsize : ls.size = nL) (hstack : st0 = As.reverse ++ .ref b :: rest) (hW : (rest.map fun v => v.category).sum ≤ 8) (hdg : decode cc pc = .ok (.invokevirtual index, 3)) (hf : cells + mc ≤ R.cells ∧ slots + ms ≤ R.slots)
    (kk : ∀ (u : va_W) (H1 : Heap) (locs1 : List Loc), X u → va_P G.1 vwCl (wr ++ u) H1 → va_D A (wr ++ u) → va_S A s.heap H1 locs1 → W p l e R s m args below meth c H1 locs1 (cells + mc) (slots + ms) Q (F0 m (pc + 3) ls (.long r0 :: rest))) : W p l e R s m args below meth c H locs cells slots Q (F0 m pc ls st0) := by
  have hPc := k_Pr hP
  have hDc := k_Dr hD
  have hFc := k_fr hDc hS C0.2.2.2.2.2.2.2.1
  have hpre := k_preA (As := .ref b :: As) C0 hPc hDc hS
  subst hq
  refine va_calll (va_runV (k_fix C0) hM cw ⟨hpre.1, va_recv C0.2.2.2.2.2.2.2.2.1.1 hPc hc he, hpre.2⟩ rfl hn hsize hstack (lv_room hW) hdg hf) hS (fun q _ h => hFc q h) hFc (fun r u t H1 locs1 ht hvm hw hB hz1 hk1 hS1 => ?_)
  obtain ⟨hw1, hw2⟩ := hw
  obtain ⟨hP1, hD1⟩ := hB
  rw [ht] at hP1
  rw [hw1]
  obtain ⟨a1, a2⟩ := k_join hP hD hk1 hFc hP1 hD1
  exact kk u H1 locs1 hw2 a1 a2 hS1
/-- a maker -/
theorem lw_callIv (C0 : k_C G p s m args meth c A cc own wsW nL ret nm) (hM : k_Dv l G y wsY rm (.ref b :: As) wc H.size X mc ms) (cw : CallB R s args own index y bytes maxL none wsY rm mc ms n ∧ y.name = "<init>" ∧ (Cond.instanceMethod y).before args s = true) (hP : va_P G.1 vwCl (wr ++ wc) H) (hD : va_D A (wr ++ wc)) (hS : va_S A s.heap H locs)
    (hn : As.length = n) (hsize : ls.size = nL) (hstack : st0 = As.reverse ++ .ref b :: rest) (hW : (rest.map fun v => v.category).sum ≤ 8) (hdg : decode cc pc = .ok (.invokespecial index, 3)) (hf : cells + mc ≤ R.cells ∧ slots + ms ≤ R.slots)
    (kk : ∀ (u : va_W) (H1 : Heap) (locs1 : List Loc), X u → va_P G.1 vwCl (wr ++ u) H1 → va_D A (wr ++ u) → va_S A s.heap H1 locs1 → W p l e R s m args below meth c H1 locs1 (cells + mc) (slots + ms) Q (F0 m (pc + 3) ls rest)) : W p l e R s m args below meth c H locs cells slots Q (F0 m pc ls st0) := by
  have hPc := k_Pr hP
  have hDc := k_Dr hD
  have hFc := k_fr hDc hS C0.2.2.2.2.2.2.2.1
  refine va_callv (va_runI (k_fix C0) hM cw (k_preA (As := .ref b :: As) C0 hPc hDc hS) rfl hn hsize hstack (lv_room hW) hdg hf) hS (fun q _ h => hFc q h) hFc (fun u t H1 locs1 ht hvm hw hB hz1 hk1 hS1 => ?_)
  obtain ⟨hP1, hD1⟩ := hB
  rw [ht] at hP1
  obtain ⟨a1, a2⟩ := k_join hP hD hk1 hFc hP1 hD1
  exact kk u H1 locs1 hw a1 a2 hS1
theorem lw_callSi {r0 : Int32} (C0 : k_C G p s m args meth c A cc own wsW nL ret nm) (hM : k_Di l G y wsY rm As wc H.size r0 X mc ms) (cw : CallB R s args own index y bytes maxL retY wsY rm mc ms n ∧ (Cond.static y).before args s = true) (hP : va_P G.1 vwCl (wr ++ wc) H) (hD : va_D A (wr ++ wc)) (hS : va_S A s.heap H locs)
    (hn : As.length = n) (hsize : ls.size = nL) (hstack : st0 = As.reverse ++ rest) (hW : (rest.map fun v => v.category).sum ≤ 8) (hdg : decode cc pc = .ok (.invokestatic index, 3)) (hf : cells + mc ≤ R.cells ∧ slots + ms ≤ R.slots)
    (kk : ∀ (u : va_W) (H1 : Heap) (locs1 : List Loc), X u → va_P G.1 vwCl (wr ++ u) H1 → va_D A (wr ++ u) → va_S A s.heap H1 locs1 → W p l e R s m args below meth c H1 locs1 (cells + mc) (slots + ms) Q (F0 m (pc + 3) ls (.int r0 :: rest))) : W p l e R s m args below meth c H locs cells slots Q (F0 m pc ls st0) := by
  have hPc := k_Pr hP
  have hDc := k_Dr hD
  have hFc := k_fr hDc hS C0.2.2.2.2.2.2.2.1
  refine va_calli (va_runS (k_fix C0) hM cw (k_preA (As := As) C0 hPc hDc hS) rfl hn hsize hstack (lv_room hW) hdg hf) hS (fun q _ h => hFc q h) hFc (fun r u t H1 locs1 ht hvm hw hB hz1 hk1 hS1 => ?_)
  obtain ⟨hw1, hw2⟩ := hw
  obtain ⟨hP1, hD1⟩ := hB
  rw [ht] at hP1
  rw [hw1]
  obtain ⟨a1, a2⟩ := k_join hP hD hk1 hFc hP1 hD1
  exact kk u H1 locs1 hw2 a1 a2 hS1
theorem lw_callSv (C0 : k_C G p s m args meth c A cc own wsW nL ret nm) (hM : k_Dv l G y wsY rm As wc H.size X mc ms) (cw : CallB R s args own index y bytes maxL retY wsY rm mc ms n ∧ (Cond.static y).before args s = true) (hP : va_P G.1 vwCl (wr ++ wc) H) (hD : va_D A (wr ++ wc)) (hS : va_S A s.heap H locs)
    (hn : As.length = n) (hsize : ls.size = nL) (hstack : st0 = As.reverse ++ rest) (hW : (rest.map fun v => v.category).sum ≤ 8) (hdg : decode cc pc = .ok (.invokestatic index, 3)) (hf : cells + mc ≤ R.cells ∧ slots + ms ≤ R.slots)
    (kk : ∀ (u : va_W) (H1 : Heap) (locs1 : List Loc), X u → va_P G.1 vwCl (wr ++ u) H1 → va_D A (wr ++ u) → va_S A s.heap H1 locs1 → W p l e R s m args below meth c H1 locs1 (cells + mc) (slots + ms) Q (F0 m (pc + 3) ls rest)) : W p l e R s m args below meth c H locs cells slots Q (F0 m pc ls st0) := by
  have hPc := k_Pr hP
  have hDc := k_Dr hD
  have hFc := k_fr hDc hS C0.2.2.2.2.2.2.2.1
  refine va_callv (va_runS (k_fix C0) hM cw (k_preA (As := As) C0 hPc hDc hS) rfl hn hsize hstack (lv_room hW) hdg hf) hS (fun q _ h => hFc q h) hFc (fun u t H1 locs1 ht hvm hw hB hz1 hk1 hS1 => ?_)
  obtain ⟨hP1, hD1⟩ := hB
  rw [ht] at hP1
  obtain ⟨a1, a2⟩ := k_join hP hD hk1 hFc hP1 hD1
  exact kk u H1 locs1 hw a1 a2 hS1
variable {ws ws' : va_W} {D : va_G} {cl : List vw_C}
theorem kd_reti {r0 v : Int32} (C0 : k_C G p s m args meth c A cc own wsW nL (some .int) nm) (hP : va_P G.1 vwCl ws H) (hD : va_D A ws) (hS : va_S A s.heap H locs) (hX : X ws) (hv : v = r0) (hdg : decode cc pc = .ok (.ireturn, 1)) : W p l e R s m args below meth c H locs cells slots (MQ below (va_Qi (fun r (u : va_W) => r = r0 ∧ X u) (fun u t => k_PB G A u t) A) args s cells slots A) (F0 m pc ls [.int v]) := by
  subst hv
  have hlocks := C0.2.2.2.2.2.1
  exact W.iret C0.1 C0.2.1 C0.2.2.1 (fun t ht hW => ⟨⟨v, ws, rfl, ⟨rfl, hX⟩, by rw [ht]; exact hP, hD⟩, hS.F ht⟩) hS.2.2 hdg
theorem kd_retz {r0 v : Int32} {ty : FieldType} (C0 : k_C G p s m args meth c A cc own wsW nL (some ty) nm) (hP : va_P G.1 vwCl ws H) (hD : va_D A ws) (hS : va_S A s.heap H locs) (hX : X ws) (hv : v = r0) (hn : narrow ty (.int v) = .int v) (hdg : decode cc pc = .ok (.ireturn, 1)) : W p l e R s m args below meth c H locs cells slots (MQ below (va_Qi (fun r (u : va_W) => r = r0 ∧ X u) (fun u t => k_PB G A u t) A) args s cells slots A) (F0 m pc ls [.int v]) := by
  subst hv
  have hlocks := C0.2.2.2.2.2.1
  exact W.zret C0.1 C0.2.1 C0.2.2.1 hn (fun t ht hW => ⟨⟨v, ws, rfl, ⟨rfl, hX⟩, by rw [ht]; exact hP, hD⟩, hS.F ht⟩) hS.2.2 hdg
theorem kd_retv (C0 : k_C G p s m args meth c A cc own wsW nL none nm) (hP : va_P G.1 vwCl ws H) (hD : va_D A ws) (hS : va_S A s.heap H locs) (hX : X ws) (hdg : decode cc pc = .ok (.return_, 1)) : W p l e R s m args below meth c H locs cells slots (MQ below (va_Qv (fun (u : va_W) => X u) (fun u t => k_PB G A u t) A) args s cells slots A) (F0 m pc ls []) := by
  have hlocks := C0.2.2.2.2.2.1
  exact W.vret C0.1 C0.2.1 C0.2.2.1 (fun t ht hW => ⟨⟨ws, rfl, hX, by rw [ht]; exact hP, hD⟩, hS.F ht⟩) hS.2.2 hdg
theorem k_permP (hP : va_P D cl ws H) (h : List.Perm ws ws') : va_P D cl ws' H := k_Psub hP (fun _ hq => h.mem_iff.mpr hq)
theorem k_Dpw : va_D A ws ↔ List.Pairwise (fun p q : Nat × va_E => p.1 ≠ q.1) ws ∧ ∀ q ∈ ws, A q.1 := by
  constructor
  · intro h
    refine ⟨List.pairwise_iff_getElem.mpr (fun i j hi hj hij e => ?_), fun q hq => k_Dmem h hq⟩
    have := h.1 i j _ _ (List.getElem?_eq_getElem hi) (List.getElem?_eq_getElem hj) e
    omega
  · intro h
    refine ⟨fun i j p q hp hq e => ?_, fun k q hk => h.2 q (List.mem_of_getElem? hk)⟩
    obtain ⟨hi, rfl⟩ := List.getElem?_eq_some_iff.mp hp
    obtain ⟨hj, rfl⟩ := List.getElem?_eq_some_iff.mp hq
    have h1 := List.pairwise_iff_getElem.mp h.1
    rcases Nat.lt_trichotomy i j with g | g | g
    · exact absurd e (h1 i j hi hj g)
    · exact g
    · exact absurd e.symm (h1 j i hj hi g)
theorem k_permD (hD : va_D A ws) (h : List.Perm ws ws') : va_D A ws' := by
  have h1 := k_Dpw.mp hD
  exact k_Dpw.mpr ⟨(h.pairwise_iff (fun z => Ne.symm z)).mp h1.1, fun q hq => h1.2 q (h.mem_iff.mpr hq)⟩
theorem k_psn (b : Nat × va_E) (w : va_W) : List.Perm (b :: w) (w ++ [b]) := (List.perm_append_singleton b w).symm
end LCALL
