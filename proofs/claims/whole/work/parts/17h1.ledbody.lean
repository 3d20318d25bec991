/-! THE LAW'S led: a body with a handler -/
theorem k_ofH {l : Launch} {G : k_G} {y : MethodName} {wsW wsT : List Cond} {rm : Room} {av : List Value} {ws : va_W} {sz : Nat} {Qc : Array Value → State → Outcome → State → Prop} {mc ms : Nat} {cc : ByteArray} {nL : Nat} {rt : Option FieldType} {own : String} {hh : List (Nat × Nat × Nat × Nat)}
    (hy : plainName y.cls = true) (hw : wsW = Cond.codeWith y cc nL rt hh :: wsT) (ho : y.cls = own) (hlen : Nat.ble (lg_sl av).length nL = true)
    (body : ∀ (p : Program) (e : Env) (s : State) (m : MethodId) (args : Array Value) (below : List Frame) (meth : Method) (c : Code) (ls : Array Slot), s.heap.size = sz → k_C G p s m args meth c (va_A ws sz) cc own wsW nL rt meth.name → c.exceptionTable.toList = tableOf hh → va_P G.1 vwCl ws s.heap → va_D (va_A ws sz) ws → va_S (va_A ws sz) s.heap s.heap [] → lv_has ls nL (lv_args 0 av) →
      W p l e rm s m args below meth c s.heap [] 0 0 (MQ below Qc args s mc ms (va_A ws sz)) (F0 m 0 ls [])) : Met l y wsW rm (va_Pc av (k_PC G ws sz)) Qc mc ms (va_A ws sz) := by
  refine MetFree.of_bodyS (code := cc) (maxLocals := nL) (ret := rt) hy ?_ ?_
  · intro args s m h hn
    obtain ⟨m9, meth, c, hn9, h1, h2, h3, h4, -, h5, h6, -⟩ := Cond.codeWith_spec (atoms_spec (ws := wsW) h _ (by rw [hw]; exact List.mem_cons_self))
    cases hn.symm.trans hn9
    exact ⟨meth, c, h1, h2, h3, h4, h5, h6⟩
  · intro p e s m args below meth c s₁ B hml hP _
    have hh0 : s₁.heap = s.heap := by rw [B.state]; rfl
    obtain ⟨rfl, hsz, hP, hX, hD⟩ := hP
    have hts := atoms_spec (ws := wsW) B.pre
    have hown : s.vm.findClass own = some m.cls := by rw [← ho]; exact findClass_of_methodNamed B.named
    have htb := vx_table (x := y) B (hts _ (by rw [hw]; exact List.mem_cons_self))
    have K : W p l e rm s m av.toArray below meth c s.heap [] 0 0 (MQ below Qc av.toArray s mc ms (va_A ws sz)) (entryFrame m av.toArray nL) := by
      rw [lg_entry_eq]
      exact body p e s m _ below meth c _ hsz ⟨B.exec, B.bytes, B.returns, hts, hown, B.notSynchronized, hml, fun q h => Or.inr (by rw [← hsz]; exact h), hX, rfl⟩ htb hP hD.self va_S.rf (lv_entry av (Nat.le_of_ble_eq_true hlen))
    obtain ⟨t, a1, o, b1, b2, b3⟩ := K s₁ hh0 (Stand.of_body B)
    exact ⟨t, o, a1, b1, b2, b3⟩
section LVX
variable {G : k_G} {p : Program} {l : Launch} {e : Env} {R : Room} {s : State} {m : MethodId} {args : Array Value} {below : List Frame} {meth : Method} {c : Code} {H : Heap} {locs : List Loc} {cells slots : Nat} {Q : State → Prop} {A : Nat → Prop} {cc : ByteArray} {own nm : String} {wsW : List Cond} {nL : Nat} {rt : Option FieldType} {pc : Nat} {ls : Array Slot} {rest st0 : List Value} {wr wc : va_W}
variable {y : MethodName} {wsY : List Cond} {rm : Room} {bytes : ByteArray} {maxL mc ms n index : Nat} {retY : Option FieldType} {As : List Value} {C : String} {b : Addr} {ci : Nat} {fs : List Value} {qc : vw_C} {X XX : va_W → Prop}
theorem k_retX {r0 v : Int32} {ws : va_W} (C0 : k_C G p s m args meth c A cc own wsW nL (some .int) nm) (hP : va_P G.1 vwCl ws H) (hD : va_D A ws) (hS : va_S A s.heap H locs) (hX : X ws) (hv : v = r0) (hdg : decode cc pc = .ok (.ireturn, 1)) : W p l e R s m args below meth c H locs cells slots (MQ below (va_Qi (fun r (u : va_W) => r = r0 ∧ X u) (fun u t => k_PB G A u t) A) args s cells slots A) (F0 m pc ls [.int v]) := by
  have hlocks := C0.2.2.2.2.2.1
  exact W.iret C0.1 C0.2.1 C0.2.2.1 (fun t ht hW => ⟨⟨v, ws, rfl, ⟨hv, hX⟩, by rw [ht]; exact hP, hD⟩, hS.F ht⟩) hS.2.2 hdg
theorem lw_callVx {o : Int32} {E0 : String} (C0 : k_C G p s m args meth c A cc own wsW nL rt nm) (hM : vx_Met l y wsY rm (va_Pc (.ref b :: As) (k_PC G wc H.size)) (va_Qi (fun r (u : va_W) => r = o ∧ X u) (fun u t => k_PB G (va_A wc H.size) u t) (va_A wc H.size)) (vx_X (fun (u : va_W) => XX u) (fun E u t => E = E0 ∧ k_PB G (va_A wc H.size) u t) (va_A wc H.size)) mc ms (va_A wc H.size)) (cw : CallW R s args own C index y bytes maxL retY wsY rm mc ms n) (hP : va_P G.1 vwCl (wr ++ wc) H) (hD : va_D A (wr ++ wc)) (hS : va_S A s.heap H locs)
    (hc : vwCl[ci]? = some qc) (hq : qc.1 = C) (he : wc[0]? = some (b, .inr (ci, fs))) (hn : As.length = n) (hsize : ls.size = nL) (hstack : st0 = As.reverse ++ .ref b :: rest) (hW : (rest.map fun v => v.category).sum ≤ 8) (hdg : decode cc pc = .ok (.invokevirtual index, 3)) (hf : cells + mc ≤ R.cells ∧ slots + ms ≤ R.slots)
    (kx : ∀ (ce : Cell) (q9 : Addr) (u : va_W) (H1 : Heap) (locs1 : List Loc), XX u → va_P G.1 vwCl (wr ++ u) H1 → va_D A (wr ++ u) → va_S A s.heap H1 locs1 → H1[q9]? = some ce → ce.vm = .none → s.vm.findClass E0 = some ce.cls → vx_W p l e R s m args below meth c H1 locs1 (cells + mc) (slots + ms) Q (F0 m pc ls rest) q9)
    (kk : ∀ (u : va_W) (H1 : Heap) (locs1 : List Loc), X u → va_P G.1 vwCl (wr ++ u) H1 → va_D A (wr ++ u) → va_S A s.heap H1 locs1 → W p l e R s m args below meth c H1 locs1 (cells + mc) (slots + ms) Q (F0 m (pc + 3) ls (.int o :: rest))) : W p l e R s m args below meth c H locs cells slots Q (F0 m pc ls st0) := by
  have hPc := k_Pr hP
  have hDc := k_Dr hD
  have hFc := k_fr hDc hS C0.2.2.2.2.2.2.2.1
  have hpre := k_preA (As := .ref b :: As) C0 hPc hDc hS
  subst hq
  refine vx_calli (vx_runV (k_fix C0) hM cw ⟨hpre.1, va_recv C0.2.2.2.2.2.2.2.2.1.1 hPc hc he, hpre.2⟩ rfl hn hsize hstack (lv_room hW) hdg hf) hS (fun q _ h => hFc q h) hFc (fun q _ h => hFc q h) (fun E ce q9 u t H1 locs1 ht hvm hw hB hz1 hk1 hS1 h1 h2 h3 => ?_) (fun r u t H1 locs1 ht hvm hw hB hz1 hk1 hS1 => ?_)
  · obtain ⟨rfl, hP1, hD1⟩ := hB
    rw [ht] at hP1
    obtain ⟨a1, a2⟩ := k_join hP hD hk1 hFc hP1 hD1
    exact kx ce q9 u H1 locs1 hw a1 a2 hS1 h1 h2 h3
  · obtain ⟨hw1, hw2⟩ := hw
    obtain ⟨hP1, hD1⟩ := hB
    rw [ht] at hP1
    rw [hw1]
    obtain ⟨a1, a2⟩ := k_join hP hD hk1 hFc hP1 hD1
    exact kk u H1 locs1 hw2 a1 a2 hS1
theorem lw_callSw {r0 : Int32} {hh : List (Nat × Nat × Nat × Nat)} (C0 : k_C G p s m args meth c A cc own wsW nL rt nm) (hM : k_Di l G y wsY rm As wc H.size r0 X mc ms) (cw : vx_CSW R s args own index y bytes maxL retY hh wsY rm mc ms n) (hP : va_P G.1 vwCl (wr ++ wc) H) (hD : va_D A (wr ++ wc)) (hS : va_S A s.heap H locs)
    (hn : As.length = n) (hsize : ls.size = nL) (hstack : st0 = As.reverse ++ rest) (hW : (rest.map fun v => v.category).sum ≤ 8) (hdg : decode cc pc = .ok (.invokestatic index, 3)) (hf : cells + mc ≤ R.cells ∧ slots + ms ≤ R.slots)
    (kk : ∀ (u : va_W) (H1 : Heap) (locs1 : List Loc), X u → va_P G.1 vwCl (wr ++ u) H1 → va_D A (wr ++ u) → va_S A s.heap H1 locs1 → W p l e R s m args below meth c H1 locs1 (cells + mc) (slots + ms) Q (F0 m (pc + 3) ls (.int r0 :: rest))) : W p l e R s m args below meth c H locs cells slots Q (F0 m pc ls st0) := by
  have hPc := k_Pr hP
  have hDc := k_Dr hD
  have hFc := k_fr hDc hS C0.2.2.2.2.2.2.2.1
  refine va_calli (vx_runSW (k_fix C0) hM cw (k_preA C0 hPc hDc hS) rfl hn hsize hstack (lv_room hW) hdg hf) hS (fun q _ h => hFc q h) hFc (fun r u t H1 locs1 ht hvm hw hB hz1 hk1 hS1 => ?_)
  obtain ⟨hw1, hw2⟩ := hw
  obtain ⟨hP1, hD1⟩ := hB
  rw [ht] at hP1
  rw [hw1]
  obtain ⟨a1, a2⟩ := k_join hP hD hk1 hFc hP1 hD1
  exact kk u H1 locs1 hw2 a1 a2 hS1
end LVX
theorem k_swP {D : va_G} {cl : List vw_C} {H : Heap} {a b : va_W} (h : va_P D cl (a ++ b) H) : va_P D cl (b ++ a) H := k_Psub h (fun q hq => (List.mem_append.mp hq).elim (fun h => List.mem_append_right _ h) (fun h => List.mem_append_left _ h))
theorem k_swD {A : Nat → Prop} {a b : va_W} (h : va_D A (a ++ b)) : va_D A (b ++ a) := k_Dapp (k_Dr h) (kd_l h) (fun p hp q hq e => k_Dx h q hq p hp e.symm)
def lw_k (o : Int32) : Int32 := if o = -1 then 1 else 0
abbrev lw_O (G : k_G) (q3 : Nat) (f : Nat → Int64) : va_W := [(q3, .inl (k_cJ G, 1, .inr (.inl f)))]
def lw_PL (G : k_G) (hX q3 : Nat) (σ : k_SB) (o : Int32) (u : va_W) : Prop := ∃ (f : Nat → Int64) (u1 : va_W), u = lw_O G q3 f ++ u1 ∧ XW G hX σ u1 ∧ (o ≠ -1 → f (0 : Int32).toNatClampNeg = o.toInt64)
abbrev rm_L_led : Room := { frames := 7, cells := 1, slots := 6, locals := 105 }
theorem u_L_led_1 : (Cond.classLink RL 13 "java/util/NoSuchElementException") ∈ wsL_led := by decide +kernel
theorem u_L_led_2 : (Cond.initialized "java/util/NoSuchElementException") ∈ wsL_led := by decide +kernel
theorem e_L_led : yL_led.cls ≠ "java/lang/invoke/MethodHandle" ∧ yL_led.cls ≠ "java/lang/invoke/VarHandle" ∧ (parseMethodDescriptor yL_led.desc).map (fun d => d.parameters.length) = some 3 := by decide +kernel
set_option maxHeartbeats 4000000 in
set_option maxRecDepth 100000 in
theorem c_L_led {l : Launch} {G : k_G} {hX q3 : Nat} {σ : k_SB} {wX : va_W} {f : Nat → Int64} (hw : XW G hX σ wX) (hst : l.stackTraces = false) {p1 o : Int32} (hrun : fx_led p1 σ = some o) (sz : Nat) : k_Di l G yL_led wsL_led rm_L_led [.ref hX, .int p1, .ref q3] (lw_O G q3 f ++ wX) sz (lw_k o) (lw_PL G hX q3 σ o) 1 6 := by
  refine k_ofH (cc := cL_led) (nL := 4) (rt := some .int) (own := RL) (hh := [(0, 9, 12, 13)]) (by decide) rfl rfl rfl ?_
  intro p e s m args below meth c ls hsz C0 htb hP hD hS hl
  have hl : lv_has ls 4 [(0, .ref hX), (1, .int p1), (2, .ref q3)] := hl
  generalize hH : s.heap = H at hP
  have hS : va_S (va_A (lw_O G q3 f ++ wX) sz) s.heap H [] := by rw [← hH]; exact hS
  clear hH
  generalize va_A (lw_O G q3 f ++ wX) sz = A at C0 hD hS ⊢
  have hx := C0.1
  have hb := C0.2.1
  have hts := C0.2.2.2.1
  have hown := C0.2.2.2.2.1
  obtain ⟨fx, ex⟩ := lw_x0 hw
  refine lv_aload_n hx hb dL_led_0 rfl (lv_at hl 2 rfl) ?_
  refine lv_iconst (v := 0) hx hb dL_led_1 (by decide) ?_
  refine lv_aload_n hx hb dL_led_2 rfl (lv_at hl 0 rfl) ?_
  refine lv_iload_n hx hb dL_led_3 rfl (lv_at hl 1 rfl) ?_
  refine lw_callVx (wr := lw_O G q3 f) (ci := 8) (qc := (RX11, TX11, 12)) (rest := [.int 0, .ref q3]) C0 (lx_led hw hst hrun H.size) (cwV 1 hts gL_led_X11_led rfl rfl rfl e_X11_led ⟨Nat.le_of_ble_eq_true rfl, Nat.le_of_ble_eq_true rfl⟩) hP hD hS rfl rfl ex rfl hl.1 rfl (Nat.le_of_ble_eq_true rfl) dL_led_4 ⟨Nat.le_of_ble_eq_true rfl, Nat.le_of_ble_eq_true rfl⟩ (fun ce q9 u H1 locs1 hu hP hD hS h1 h2 h3 => ?_) (fun u H1 locs1 hu hP hD hS => ?_)
  · refine vx_catch (name := "java/util/NoSuchElementException") (E := "java/util/NoSuchElementException") hown [] ⟨0, 9, 12, 13⟩ [] htb (fun z hz => nomatch hz) (by decide) (by decide) (hts _ u_L_led_1) (k_cst (hts _ u_L_led_2)) h1 h2 h3 ?_
    refine lv_astore_n (lv' := [(3, .ref q9), (0, .ref hX), (1, .int p1), (2, .ref q3)]) hx hb dL_led_12 rfl hl (by decide) rfl (fun ls hl => ?_)
    refine lv_iconst (v := 1) hx hb dL_led_13 (by decide) ?_
    exact k_retX C0 hP hD hS ⟨f, u, rfl, hu.2, fun h => absurd hu.1 h⟩ (by rw [lw_k, if_pos hu.1]) dL_led_14
  · obtain ⟨hne, hu⟩ := hu
    refine lv_i2l (v := o.toInt64) hx hb dL_led_7 rfl ?_
    refine va_last hx hb C0.2.2.2.2.2.2.2.2.1.1 hP hD hS 0 2 (cA := k_cJ G) (n := 1) (f := f) rfl rfl (i := 0) (show ¬ ((0 : Int32) < 0 ∨ 1 ≤ (0 : Int32).toNatClampNeg) by decide) dL_led_8 (fun H2 locs2 hP hD hS => ?_)
    refine lv_goto (tgt := 15) hx hb dL_led_9 (by decide) ?_
    refine lv_iconst (v := 0) hx hb dL_led_15 (by decide) ?_
    exact k_retX C0 hP hD hS ⟨_, u, rfl, hu, fun _ => rfl⟩ (by rw [lw_k, if_neg hne]) dL_led_16
