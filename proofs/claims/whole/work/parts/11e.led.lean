/-! led, the one method that throws: the printed word list (wsX11_led) asks for a link that no table has; this one asks for what is there (k_wN) -/
def wsX11_ledX : List Cond := .code yX11_led cX11_led 4 (some .int) :: ((wsX11_led_r1 ++ wsX11_led_r2) ++ wsX110 ++ wsX90 ++ k_wN)
set_option maxRecDepth 20000 in
theorem ggX11_led_X9_row_X : GoodIn wsX11_ledX wsX9_row := goodIn_r _ [8, 9, 10, 11, 12, 44, 45, 46] (by decide +kernel) (by decide +kernel)
set_option maxRecDepth 20000 in
theorem gX11_led_X9_row_X : GoodIn wsX11_ledX (wsV RX11 124 RX9 yX9_row wsX9_row) := goodIn_app (goodIn_of _ (by decide +kernel)) ggX11_led_X9_row_X
set_option maxRecDepth 20000 in
theorem ggX11_led_X9_steps_X : GoodIn wsX11_ledX wsX9_steps := goodIn_r _ [16, 17, 10, 11, 12, 44, 45, 46] (by decide +kernel) (by decide +kernel)
set_option maxRecDepth 20000 in
theorem gX11_led_X9_steps_X : GoodIn wsX11_ledX (wsV RX11 127 RX9 yX9_steps wsX9_steps) := goodIn_app (goodIn_of _ (by decide +kernel)) ggX11_led_X9_steps_X
set_option maxRecDepth 20000 in
theorem ggX11_led_X8_closes_X : GoodIn wsX11_ledX wsX8_closes := goodIn_r _ [21, 22, 23, 20, 24, 25, 26, 27, 28, 29, 30, 31] (by decide +kernel) (by decide +kernel)
set_option maxRecDepth 20000 in
theorem gX11_led_X8_closes_X : GoodIn wsX11_ledX (va_wsS RX11 206 yX8_closes wsX8_closes) := goodIn_app (goodIn_of _ (by decide +kernel)) ggX11_led_X8_closes_X
def f_X11_led_47 (k4 : Int32 → Int32 → Int32 → Int32 → (Nat → Int32) → (Nat → Int32) → Option (Int32)) (x1 : Int32) (x2 : Int32) (x3 : Int32) (v_t_now_count : Int32) (w_t_now_lengths : Nat → Int32) (w_t_now_rows : Nat → Int32) : Option (Int32) :=
  k4 x1 x2 (x3 + 1) v_t_now_count w_t_now_lengths w_t_now_rows
def f_X11_led_4 : Nat → Int32 → Int32 → Int32 → Int32 → (Nat → Int32) → (Nat → Int32) → Option (Int32)
  | 0, _, _, _, _, _, _ => none
  | n + 1, x1, x2, x3, v_t_now_count, w_t_now_lengths, w_t_now_rows =>
    if v_t_now_count ≤ x3 then
      some (-1)
    else
      (bd (f_X9_row x3 w_t_now_rows) fun t2 =>
       bd (f_X9_steps x3 w_t_now_lengths) fun t3 =>
       bd (f_X8_closes t2 t3) fun t4 =>
       if t4 = 0 then
         (if x2 = x1 then
            (gd (x3 ≠ -1) <|
             some x3)
          else
            f_X11_led_47 (fun x1 x2 x3 v_t_now_count w_t_now_lengths w_t_now_rows => f_X11_led_4 n x1 x2 x3 v_t_now_count w_t_now_lengths w_t_now_rows) x1 (x2 + 1) x3 v_t_now_count w_t_now_lengths w_t_now_rows)
       else
         f_X11_led_47 (fun x1 x2 x3 v_t_now_count w_t_now_lengths w_t_now_rows => f_X11_led_4 n x1 x2 x3 v_t_now_count w_t_now_lengths w_t_now_rows) x1 x2 x3 v_t_now_count w_t_now_lengths w_t_now_rows)
def f_X11_led (p1 : Int32) (v_t_now_count : Int32) (w_t_now_lengths : Nat → Int32) (w_t_now_rows : Nat → Int32) : Option (Int32) :=
  f_X11_led_4 kFU p1 (0 : Int32) (0 : Int32) v_t_now_count w_t_now_lengths w_t_now_rows
theorem u_X11_led_1 : (Cond.classLink RX11 344 "java/util/NoSuchElementException") ∈ wsX11_ledX := List.mem_of_getElem? (i := 1) (by decide +kernel)
theorem u_X11_led_2 : (Cond.initialized "java/util/NoSuchElementException") ∈ wsX11_ledX := List.mem_of_getElem? (i := 2) (by decide +kernel)
abbrev rm_X11_led : Room := { frames := 6, cells := 1, slots := 6, locals := 82 }
def k_XC (G : k_G) (A : Nat → Prop) (th : Prop) (w : va_W) : String → State → State → Prop := vx_X (fun (_ : Unit) => th) (fun E _ t => E = "java/util/NoSuchElementException" ∧ k_PB G A w t) A
theorem k_ofx {l : Launch} {G : k_G} {y : MethodName} {wsW wsT : List Cond} {rm : Room} {av : List Value} {ws : va_W} {sz : Nat} {Qc : Array Value → State → Outcome → State → Prop} {XC : String → State → State → Prop} {mc ms : Nat} {cc : ByteArray} {nL : Nat} {ret : Option FieldType} {own nm : String}
    (hy : plainName y.cls = true) (hw : wsW = Cond.code y cc nL ret :: wsT) (ho : y.cls = own) (hn : y.name = nm) (hlen : Nat.ble (lg_sl av).length nL = true)
    (body : ∀ (p : Program) (e : Env) (s : State) (m : MethodId) (args : Array Value) (below : List Frame) (meth : Method) (c : Code) (ls : Array Slot), s.heap.size = sz → k_C G p s m args meth c (va_A ws sz) cc own wsW nL ret nm → (∀ x ∈ c.exceptionTable.toList, False) → va_P G.1 vwCl ws s.heap → va_D (va_A ws sz) ws → va_S (va_A ws sz) s.heap s.heap [] → lv_has ls nL (lv_args 0 av) →
      W p l e rm s m args below meth c s.heap [] 0 0 (vx_MQ below Qc XC args s mc ms (va_A ws sz)) (F0 m 0 ls [])) : vx_Met l y wsW rm (va_Pc av (k_PC G ws sz)) Qc XC mc ms (va_A ws sz) := by
  refine vx_ofW (cc := cc) (maxL := nL) (ret := ret) hy hw ?_
  intro p e s m args below meth c s₁ B hml hex hv
  obtain ⟨rfl, hsz, hP, hX, hD⟩ := hv
  have hts := atoms_spec (ws := wsW) B.pre
  have hown : s.vm.findClass own = some m.cls := by rw [← ho]; exact findClass_of_methodNamed B.named
  rw [lg_entry_eq]
  refine body p e s m _ below meth c _ hsz ⟨B.exec, B.bytes, B.returns, hts, hown, B.notSynchronized, hml, fun q h => Or.inr (by rw [← hsz]; exact h), hX, ?_⟩ hex hP hD.self va_S.rf (lv_entry av (Nat.le_of_ble_eq_true hlen))
  rw [← hn]; exact (name_of_methodNamed B.named B.method).1
theorem k_asg (vm : Vm) (c : ClassId) : vm.assignable c c = true := by
  show vm.assignableAux (255 + 1) c c = true
  rw [Vm.assignableAux]
  simp only [beq_self_eq_true, Bool.true_or]
theorem k_cst {args : Array Value} {s : State} {C : String} (hi : (Cond.initialized C).before args s = true) : (Cond.castable C C).before args s = true := by
  have hi' : (Cond.initialized C).holds args s none s [] = true := hi
  show (Cond.castable C C).holds args s none s [] = true
  cases hc : s.vm.findClass C with
  | none => simp [Cond.holds, Cond.value, hc] at hi'
  | some c => simp [Cond.holds, Cond.value, hc, k_asg]
theorem k_dcl {args : Array Value} {s : State} {x : MethodName} {bytes : ByteArray} {maxL : Nat} {ret : Option FieldType} (hi : (Cond.instanceMethod x).before args s = true) (hc : (Cond.code x bytes maxL ret).before args s = true) : (Cond.declares x).before args s = true := by
  obtain ⟨m, meth, hn, hm, hst, -⟩ := Cond.instanceMethod_spec hi
  obtain ⟨meth', c, hm', -, -, -, -, -, -, hs⟩ := Cond.code_spec hn hc
  cases hm.symm.trans hm'
  show (Cond.declares x).holds args s none s [] = true
  simp [Cond.holds, Cond.value, hn, hm, hst, hs]
section KLED
variable {G : k_G} {p : Program} {l : Launch} {e : Env} {R : Room} {s : State} {m : MethodId} {args : Array Value} {below : List Frame} {meth : Method} {c : Code} {H : Heap} {locs : List Loc} {cells slots : Nat} {Q : State → Prop} {A : Nat → Prop} {cc : ByteArray} {own nm : String} {wsW : List Cond} {nL : Nat} {ret : Option FieldType} {pc : Nat} {ls : Array Slot} {ws : va_W} {XC : String → State → State → Prop}
theorem k_retx {r0 v : Int32} {w : va_W} (C0 : k_C G p s m args meth c A cc own wsW nL (some .int) nm) (hP : va_P G.1 vwCl ws H) (hD : va_D A ws) (hS : va_S A s.heap H locs) (hne : r0 ≠ -1) (hw : ws = w) (hv : v = r0) (hdg : decode cc pc = .ok (.ireturn, 1)) : W p l e R s m args below meth c H locs 0 0 (vx_MQ below (k_Qi G A r0 (fun (_ : {u : Unit // r0 ≠ -1}) => w)) XC args s 1 6 A) (F0 m pc ls [.int v]) :=
  vx_ret (W.widen (k := 1) (n := 6) (by decide) (by decide) (k_reti C0 hP hD hS ⟨(), hne⟩ hw hv hdg))
theorem k_thr {Qc : Array Value → State → Outcome → State → Prop} (C0 : k_C G p s m args meth c A cX11_led RX11 wsX11_ledX 4 (some .int) "led") (hst : l.stackTraces = false) (hex : ∀ x ∈ c.exceptionTable.toList, False) (hP : va_P G.1 vwCl ws H) (hD : va_D A ws) (hS : va_S A s.heap H locs) (hls : ls.size = 4) :
    W p l e rm_X11_led s m args below meth c H locs 0 0 (vx_MQ below Qc (k_XC G A ((-1 : Int32) = -1) ws) args s 1 6 A) (F0 m 53 ls []) := by
  have hts := C0.2.2.2.1
  have hSF := C0.2.2.2.2.2.2.2.2.1.2.2
  have hat : ∀ w ∈ k_atF RX11 348 "java/util/NoSuchElementException" 13 k_rx "java/lang/RuntimeException" ["java/lang/Exception"], w.before args s = true :=
    vx_hat (B := [.castable "java/util/NoSuchElementException" "java/util/NoSuchElementException", .declares (Bundle.initS "java/lang/RuntimeException"), .declares (Bundle.initS "java/lang/Exception"), .declares (Bundle.initS Bundle.tN)]) (fun w hw => hts w (List.mem_cons_of_mem _ (List.mem_append_right _ hw))) (by decide +kernel) (vx_c (k_cst (hts _ u_X11_led_2)) (vx_c (k_dcl (bytes := Bundle.six) (maxL := 2) (ret := none) (hts _ (by decide +kernel)) (hts _ (by decide +kernel))) (vx_c (k_dcl (bytes := Bundle.six) (maxL := 2) (ret := none) (hts _ (by decide +kernel)) (hts _ (by decide +kernel))) (vx_c (k_dcl (bytes := LibCode.Throwable.InitS.code) (maxL := 2) (ret := none) (hts _ (by decide +kernel)) (hts _ (by decide +kernel))) vx_n))))
  have hgood : ∀ w ∈ Cond.classLink RX11 344 "java/util/NoSuchElementException" :: Cond.initialized "java/util/NoSuchElementException" :: k_atF RX11 348 "java/util/NoSuchElementException" 13 k_rx "java/lang/RuntimeException" ["java/lang/Exception"], vx_ot w = true :=
    List.all_eq_true.mp (by decide +kernel : (Cond.classLink RX11 344 "java/util/NoSuchElementException" :: Cond.initialized "java/util/NoSuchElementException" :: k_atF RX11 348 "java/util/NoSuchElementException" 13 k_rx "java/lang/RuntimeException" ["java/lang/Exception"]).all vx_ot = true)
  exact k_throwSW C0.1 C0.2.1 hst (own := RX11) (cls := "java/util/NoSuchElementException") (text := "no such stack") (Y := "java/lang/RuntimeException") (names := ["java/lang/Exception"]) (rx := k_rx) (ik := 344) (is := 346) (ic := 348) (ix := 13) (A := A)
    (by decide +kernel) (by decide +kernel) (by decide +kernel) (by decide +kernel) C0.2.2.2.2.1 (by decide +kernel) (by decide +kernel) (by decide +kernel) (hts _ u_X11_led_1) (hts _ u_X11_led_2) (k_s16 hSF) hat hgood hSF.2.2.2.2.2.2.1 hSF.2.2.2.2.2.2.2 hS (hls.trans C0.2.2.2.2.2.2.1.symm)
    dX11_led_53 dX11_led_56 dX11_led_57 dX11_led_60 dX11_led_63 (fun x hx => (hex x hx).elim) (by decide) (Nat.le_of_ble_eq_true rfl) (by decide) (by decide) C0.2.2.2.2.2.1
    (fun t hv hsz hq => ⟨(), rfl, ⟨rfl, hP.kept (fun k q hk => hq q.1 (vx_lt hP hk)), hD⟩, Nat.le_trans hS.1 hsz, fun q h1 h2 => (hq q (Nat.lt_of_lt_of_le h1 hS.1)).trans (hS.2.1 q h1 h2)⟩)
    hS.2.2 (by decide) (by decide)
end KLED
theorem u_X11_led_3 : (Cond.fieldLink RX11 28 "ClosePacking" "now" "LClosePacking$Stacks;") ∈ wsX11_ledX := List.mem_of_getElem? (i := 3) (by decide +kernel)
theorem n_X11_led_X11 : ∀ w ∈ u_ws RX11 TX11 12, w ∈ wsX11_ledX := by decide +kernel
theorem n_X11_led_X9 : ∀ w ∈ u_ws RX9 TX9 3, w ∈ wsX11_ledX := by decide +kernel
theorem nw_X11_led_25 : k_nest[25]? = some (.fieldLinkNest RX11 113 "ClosePacking$Stacks" "count" "I" "ClosePacking") := rfl
theorem e_X11_led : yX11_led.cls = RX11 ∧ yX11_led.cls ≠ "java/lang/invoke/MethodHandle" ∧ yX11_led.cls ≠ "java/lang/invoke/VarHandle" ∧ (parseMethodDescriptor yX11_led.desc).map (fun d => d.parameters.length) = some 1 := by decide +kernel
set_option maxHeartbeats 4000000 in
set_option maxRecDepth 100000 in
theorem t_X11_led_47 {l : Launch} {G : k_G} {p : Program} {e : Env} {s : State} {m : MethodId} {args : Array Value} {below : List Frame} {meth : Method} {c : Code} {A : Nat → Prop} {h_t h_t_now h_t_now_lengths h_t_now_rows : Nat} {g_t_tape g_t_reader g_t_acts g_t_images g_t_lines g_t_landscape g_t_told g_t_draft g_t_latestTrouble g_t_latestFault g_t_faultPlace : Value} {out : Int32} (C0 : k_C G p s m args meth c A cX11_led RX11 wsX11_ledX 4 (some .int) "led") (hst : l.stackTraces = false) (hex : ∀ x ∈ c.exceptionTable.toList, False) (k4 : Int32 → Int32 → Int32 → Int32 → (Nat → Int32) → (Nat → Int32) → Option (Int32)) (hk4 : ∀ (x1 : Int32) (x2 : Int32) (x3 : Int32) (v_t_now_count : Int32) (w_t_now_lengths : Nat → Int32) (w_t_now_rows : Nat → Int32) (H : Heap) (locs : List Loc) (ls : Array Slot), va_P G.1 vwCl [(h_t, .inr (8, [g_t_tape, g_t_reader, .ref h_t_now, g_t_acts, g_t_images, g_t_lines, g_t_landscape, g_t_told, g_t_draft, g_t_latestTrouble, g_t_latestFault, g_t_faultPlace])), (h_t_now, .inr (6, [.ref h_t_now_rows, .ref h_t_now_lengths, .int v_t_now_count])), (h_t_now_lengths, .inl (k_cI G, 5, .inl w_t_now_lengths)), (h_t_now_rows, .inl (k_cI G, 5, .inl w_t_now_rows))] H → va_D A [(h_t, .inr (8, [g_t_tape, g_t_reader, .ref h_t_now, g_t_acts, g_t_images, g_t_lines, g_t_landscape, g_t_told, g_t_draft, g_t_latestTrouble, g_t_latestFault, g_t_faultPlace])), (h_t_now, .inr (6, [.ref h_t_now_rows, .ref h_t_now_lengths, .int v_t_now_count])), (h_t_now_lengths, .inl (k_cI G, 5, .inl w_t_now_lengths)), (h_t_now_rows, .inl (k_cI G, 5, .inl w_t_now_rows))] → va_S A s.heap H locs → lv_has ls 4 [(0, .ref h_t), (1, .int x1), (2, .int x2), (3, .int x3)] → k4 x1 x2 x3 v_t_now_count w_t_now_lengths w_t_now_rows = some out → W p l e rm_X11_led s m args below meth c H locs 0 0 (vx_MQ below (k_Qi G A out (fun (_ : {u : Unit // out ≠ -1}) => [(h_t, .inr (8, [g_t_tape, g_t_reader, .ref h_t_now, g_t_acts, g_t_images, g_t_lines, g_t_landscape, g_t_told, g_t_draft, g_t_latestTrouble, g_t_latestFault, g_t_faultPlace])), (h_t_now, .inr (6, [.ref h_t_now_rows, .ref h_t_now_lengths, .int v_t_now_count])), (h_t_now_lengths, .inl (k_cI G, 5, .inl w_t_now_lengths)), (h_t_now_rows, .inl (k_cI G, 5, .inl w_t_now_rows))])) (k_XC G A (out = -1) [(h_t, .inr (8, [g_t_tape, g_t_reader, .ref h_t_now, g_t_acts, g_t_images, g_t_lines, g_t_landscape, g_t_told, g_t_draft, g_t_latestTrouble, g_t_latestFault, g_t_faultPlace])), (h_t_now, .inr (6, [.ref h_t_now_rows, .ref h_t_now_lengths, .int v_t_now_count])), (h_t_now_lengths, .inl (k_cI G, 5, .inl w_t_now_lengths)), (h_t_now_rows, .inl (k_cI G, 5, .inl w_t_now_rows))]) args s 1 6 A) (F0 m 4 ls [])) : ∀ (x1 : Int32) (x2 : Int32) (x3 : Int32) (v_t_now_count : Int32) (w_t_now_lengths : Nat → Int32) (w_t_now_rows : Nat → Int32) (H : Heap) (locs : List Loc) (ls : Array Slot), va_P G.1 vwCl [(h_t, .inr (8, [g_t_tape, g_t_reader, .ref h_t_now, g_t_acts, g_t_images, g_t_lines, g_t_landscape, g_t_told, g_t_draft, g_t_latestTrouble, g_t_latestFault, g_t_faultPlace])), (h_t_now, .inr (6, [.ref h_t_now_rows, .ref h_t_now_lengths, .int v_t_now_count])), (h_t_now_lengths, .inl (k_cI G, 5, .inl w_t_now_lengths)), (h_t_now_rows, .inl (k_cI G, 5, .inl w_t_now_rows))] H → va_D A [(h_t, .inr (8, [g_t_tape, g_t_reader, .ref h_t_now, g_t_acts, g_t_images, g_t_lines, g_t_landscape, g_t_told, g_t_draft, g_t_latestTrouble, g_t_latestFault, g_t_faultPlace])), (h_t_now, .inr (6, [.ref h_t_now_rows, .ref h_t_now_lengths, .int v_t_now_count])), (h_t_now_lengths, .inl (k_cI G, 5, .inl w_t_now_lengths)), (h_t_now_rows, .inl (k_cI G, 5, .inl w_t_now_rows))] → va_S A s.heap H locs → lv_has ls 4 [(0, .ref h_t), (1, .int x1), (2, .int x2), (3, .int x3)] → f_X11_led_47 k4 x1 x2 x3 v_t_now_count w_t_now_lengths w_t_now_rows = some out → W p l e rm_X11_led s m args below meth c H locs 0 0 (vx_MQ below (k_Qi G A out (fun (_ : {u : Unit // out ≠ -1}) => [(h_t, .inr (8, [g_t_tape, g_t_reader, .ref h_t_now, g_t_acts, g_t_images, g_t_lines, g_t_landscape, g_t_told, g_t_draft, g_t_latestTrouble, g_t_latestFault, g_t_faultPlace])), (h_t_now, .inr (6, [.ref h_t_now_rows, .ref h_t_now_lengths, .int v_t_now_count])), (h_t_now_lengths, .inl (k_cI G, 5, .inl w_t_now_lengths)), (h_t_now_rows, .inl (k_cI G, 5, .inl w_t_now_rows))])) (k_XC G A (out = -1) [(h_t, .inr (8, [g_t_tape, g_t_reader, .ref h_t_now, g_t_acts, g_t_images, g_t_lines, g_t_landscape, g_t_told, g_t_draft, g_t_latestTrouble, g_t_latestFault, g_t_faultPlace])), (h_t_now, .inr (6, [.ref h_t_now_rows, .ref h_t_now_lengths, .int v_t_now_count])), (h_t_now_lengths, .inl (k_cI G, 5, .inl w_t_now_lengths)), (h_t_now_rows, .inl (k_cI G, 5, .inl w_t_now_rows))]) args s 1 6 A) (F0 m 47 ls []) := by
  have hx := C0.1
  have hb := C0.2.1
  have hts := C0.2.2.2.1
  have hown := C0.2.2.2.2.1
  have hK := C0.2.2.2.2.2.2.2.2.1.1
  have hNW := C0.2.2.2.2.2.2.2.2.1.2.1
  have hSF := C0.2.2.2.2.2.2.2.2.1.2.2
  intro x1 x2 x3 v_t_now_count w_t_now_lengths w_t_now_rows H locs ls hP hD hS hl hrun
  rw [f_X11_led_47] at hrun
  refine lv_iinc (v := x3 + 1) (lv' := [(3, .int (x3 + 1)), (0, .ref h_t), (1, .int x1), (2, .int x2)]) hx hb dX11_led_47 hl (k := 3) rfl rfl (by decide) rfl (fun ls hl => ?_)
  refine lv_goto (tgt := 4) hx hb dX11_led_50 (by decide) ?_
  exact hk4 x1 x2 (x3 + 1) v_t_now_count w_t_now_lengths w_t_now_rows _ _ _ hP hD hS (lv_sub hl [1, 2, 3, 0] rfl) hrun
set_option maxHeartbeats 4000000 in
set_option maxRecDepth 100000 in
theorem t_X11_led_4 {l : Launch} {G : k_G} {p : Program} {e : Env} {s : State} {m : MethodId} {args : Array Value} {below : List Frame} {meth : Method} {c : Code} {A : Nat → Prop} {h_t h_t_now h_t_now_lengths h_t_now_rows : Nat} {g_t_tape g_t_reader g_t_acts g_t_images g_t_lines g_t_landscape g_t_told g_t_draft g_t_latestTrouble g_t_latestFault g_t_faultPlace : Value} {out : Int32} (C0 : k_C G p s m args meth c A cX11_led RX11 wsX11_ledX 4 (some .int) "led") (hst : l.stackTraces = false) (hex : ∀ x ∈ c.exceptionTable.toList, False) : ∀ (n : Nat) (x1 : Int32) (x2 : Int32) (x3 : Int32) (v_t_now_count : Int32) (w_t_now_lengths : Nat → Int32) (w_t_now_rows : Nat → Int32) (H : Heap) (locs : List Loc) (ls : Array Slot), va_P G.1 vwCl [(h_t, .inr (8, [g_t_tape, g_t_reader, .ref h_t_now, g_t_acts, g_t_images, g_t_lines, g_t_landscape, g_t_told, g_t_draft, g_t_latestTrouble, g_t_latestFault, g_t_faultPlace])), (h_t_now, .inr (6, [.ref h_t_now_rows, .ref h_t_now_lengths, .int v_t_now_count])), (h_t_now_lengths, .inl (k_cI G, 5, .inl w_t_now_lengths)), (h_t_now_rows, .inl (k_cI G, 5, .inl w_t_now_rows))] H → va_D A [(h_t, .inr (8, [g_t_tape, g_t_reader, .ref h_t_now, g_t_acts, g_t_images, g_t_lines, g_t_landscape, g_t_told, g_t_draft, g_t_latestTrouble, g_t_latestFault, g_t_faultPlace])), (h_t_now, .inr (6, [.ref h_t_now_rows, .ref h_t_now_lengths, .int v_t_now_count])), (h_t_now_lengths, .inl (k_cI G, 5, .inl w_t_now_lengths)), (h_t_now_rows, .inl (k_cI G, 5, .inl w_t_now_rows))] → va_S A s.heap H locs → lv_has ls 4 [(0, .ref h_t), (1, .int x1), (2, .int x2), (3, .int x3)] → f_X11_led_4 n x1 x2 x3 v_t_now_count w_t_now_lengths w_t_now_rows = some out → W p l e rm_X11_led s m args below meth c H locs 0 0 (vx_MQ below (k_Qi G A out (fun (_ : {u : Unit // out ≠ -1}) => [(h_t, .inr (8, [g_t_tape, g_t_reader, .ref h_t_now, g_t_acts, g_t_images, g_t_lines, g_t_landscape, g_t_told, g_t_draft, g_t_latestTrouble, g_t_latestFault, g_t_faultPlace])), (h_t_now, .inr (6, [.ref h_t_now_rows, .ref h_t_now_lengths, .int v_t_now_count])), (h_t_now_lengths, .inl (k_cI G, 5, .inl w_t_now_lengths)), (h_t_now_rows, .inl (k_cI G, 5, .inl w_t_now_rows))])) (k_XC G A (out = -1) [(h_t, .inr (8, [g_t_tape, g_t_reader, .ref h_t_now, g_t_acts, g_t_images, g_t_lines, g_t_landscape, g_t_told, g_t_draft, g_t_latestTrouble, g_t_latestFault, g_t_faultPlace])), (h_t_now, .inr (6, [.ref h_t_now_rows, .ref h_t_now_lengths, .int v_t_now_count])), (h_t_now_lengths, .inl (k_cI G, 5, .inl w_t_now_lengths)), (h_t_now_rows, .inl (k_cI G, 5, .inl w_t_now_rows))]) args s 1 6 A) (F0 m 4 ls []) := by
  have hx := C0.1
  have hb := C0.2.1
  have hts := C0.2.2.2.1
  have hown := C0.2.2.2.2.1
  have hK := C0.2.2.2.2.2.2.2.2.1.1
  have hNW := C0.2.2.2.2.2.2.2.2.1.2.1
  have hSF := C0.2.2.2.2.2.2.2.2.1.2.2
  intro n
  induction n with
  | zero =>
    intro x1 x2 x3 v_t_now_count w_t_now_lengths w_t_now_rows H locs ls hP hD hS hl hrun
    rw [f_X11_led_4] at hrun
    cases hrun
  | succ n ih =>
    intro x1 x2 x3 v_t_now_count w_t_now_lengths w_t_now_rows H locs ls hP hD hS hl hrun
    rw [f_X11_led_4] at hrun
    refine lv_iload_n hx hb dX11_led_4 rfl (lv_at hl 3 rfl) ?_
    refine lv_aload_n hx hb dX11_led_5 rfl (lv_at hl 0 rfl) ?_
    refine va_get (D := G.1) (ci := 8) (v := .ref h_t_now) (C := RX11) (T := TX11) (N := 12) hx hb hts n_X11_led_X11 hown hK hP 0 rfl rfl 2 (by decide) (hts _ u_X11_led_3) (fun _ h9 => h9) rfl dX11_led_6 ?_
    refine va_getN (D := G.1) (ci := 6) (v := .int v_t_now_count) (C := RX9) (T := TX9) (N := 3) hx hb hts n_X11_led_X9 hown hK hP 1 rfl rfl 2 (by decide) (va_Nw.use rfl (k_nw hNW 25 nw_X11_led_25)) (fun _ h9 => h9) rfl dX11_led_9 ?_
    refine lv_icmp_ge (tgt := 53) hx hb dX11_led_12 (by decide) (fun q1 => ?_) (fun q1 => ?_)
    · replace hrun := if_t q1 hrun
      obtain rfl := Option.some.inj hrun
      exact k_thr C0 hst hex hP hD hS hl.1
    · replace hrun := if_f q1 hrun
      refine lv_aload_n hx hb dX11_led_15 rfl (lv_at hl 0 rfl) ?_
      refine va_get (D := G.1) (ci := 8) (v := .ref h_t_now) (C := RX11) (T := TX11) (N := 12) hx hb hts n_X11_led_X11 hown hK hP 0 rfl rfl 2 (by decide) (hts _ u_X11_led_3) (fun _ h9 => h9) rfl dX11_led_16 ?_
      refine lv_iload_n hx hb dX11_led_19 rfl (lv_at hl 3 rfl) ?_
      obtain ⟨t2, et2, hrun⟩ := bd_inv hrun
      refine k_calli (w2 := fun (_ : Unit) => [(h_t, .inr (8, [g_t_tape, g_t_reader, .ref h_t_now, g_t_acts, g_t_images, g_t_lines, g_t_landscape, g_t_told, g_t_draft, g_t_latestTrouble, g_t_latestFault, g_t_faultPlace])), (h_t_now, .inr (6, [.ref h_t_now_rows, .ref h_t_now_lengths, .int v_t_now_count])), (h_t_now_lengths, .inl (k_cI G, 5, .inl w_t_now_lengths)), (h_t_now_rows, .inl (k_cI G, 5, .inl w_t_now_rows))]) C0 (k_runV (rest := []) C0 (c_X9_row et2) (cwV 1 hts gX11_led_X9_row_X rfl rfl rfl e_X9_row ⟨Nat.le_of_ble_eq_true rfl, Nat.le_of_ble_eq_true rfl⟩) hP hD hS [1, 3] rfl (by decide) 1 (qc := (RX9, TX9, 3)) rfl rfl rfl rfl hl.1 rfl (Nat.le_of_ble_eq_true rfl) dX11_led_20 ⟨Nat.le_of_ble_eq_true rfl, Nat.le_of_ble_eq_true rfl⟩) hP hD hS [1, 3] [0, 2] rfl rfl (by decide) (by decide) [0, 2, 1, 3] (by decide) (fun _ => rfl) (fun _ H locs hP hD hS => ?_)
      have hP : va_P G.1 vwCl [(h_t, .inr (8, [g_t_tape, g_t_reader, .ref h_t_now, g_t_acts, g_t_images, g_t_lines, g_t_landscape, g_t_told, g_t_draft, g_t_latestTrouble, g_t_latestFault, g_t_faultPlace])), (h_t_now, .inr (6, [.ref h_t_now_rows, .ref h_t_now_lengths, .int v_t_now_count])), (h_t_now_lengths, .inl (k_cI G, 5, .inl w_t_now_lengths)), (h_t_now_rows, .inl (k_cI G, 5, .inl w_t_now_rows))] H := hP
      have hD : va_D A [(h_t, .inr (8, [g_t_tape, g_t_reader, .ref h_t_now, g_t_acts, g_t_images, g_t_lines, g_t_landscape, g_t_told, g_t_draft, g_t_latestTrouble, g_t_latestFault, g_t_faultPlace])), (h_t_now, .inr (6, [.ref h_t_now_rows, .ref h_t_now_lengths, .int v_t_now_count])), (h_t_now_lengths, .inl (k_cI G, 5, .inl w_t_now_lengths)), (h_t_now_rows, .inl (k_cI G, 5, .inl w_t_now_rows))] := hD
      refine lv_aload_n hx hb dX11_led_23 rfl (lv_at hl 0 rfl) ?_
      refine va_get (D := G.1) (ci := 8) (v := .ref h_t_now) (C := RX11) (T := TX11) (N := 12) hx hb hts n_X11_led_X11 hown hK hP 0 rfl rfl 2 (by decide) (hts _ u_X11_led_3) (fun _ h9 => h9) rfl dX11_led_24 ?_
      refine lv_iload_n hx hb dX11_led_27 rfl (lv_at hl 3 rfl) ?_
      obtain ⟨t3, et3, hrun⟩ := bd_inv hrun
      refine k_calli (w2 := fun (_ : Unit) => [(h_t, .inr (8, [g_t_tape, g_t_reader, .ref h_t_now, g_t_acts, g_t_images, g_t_lines, g_t_landscape, g_t_told, g_t_draft, g_t_latestTrouble, g_t_latestFault, g_t_faultPlace])), (h_t_now, .inr (6, [.ref h_t_now_rows, .ref h_t_now_lengths, .int v_t_now_count])), (h_t_now_lengths, .inl (k_cI G, 5, .inl w_t_now_lengths)), (h_t_now_rows, .inl (k_cI G, 5, .inl w_t_now_rows))]) C0 (k_runV (rest := [.int t2]) C0 (c_X9_steps et3) (cwV 1 hts gX11_led_X9_steps_X rfl rfl rfl e_X9_steps ⟨Nat.le_of_ble_eq_true rfl, Nat.le_of_ble_eq_true rfl⟩) hP hD hS [1, 2] rfl (by decide) 1 (qc := (RX9, TX9, 3)) rfl rfl rfl rfl hl.1 rfl (Nat.le_of_ble_eq_true rfl) dX11_led_28 ⟨Nat.le_of_ble_eq_true rfl, Nat.le_of_ble_eq_true rfl⟩) hP hD hS [1, 2] [0, 3] rfl rfl (by decide) (by decide) [0, 2, 3, 1] (by decide) (fun _ => rfl) (fun _ H locs hP hD hS => ?_)
      have hP : va_P G.1 vwCl [(h_t, .inr (8, [g_t_tape, g_t_reader, .ref h_t_now, g_t_acts, g_t_images, g_t_lines, g_t_landscape, g_t_told, g_t_draft, g_t_latestTrouble, g_t_latestFault, g_t_faultPlace])), (h_t_now, .inr (6, [.ref h_t_now_rows, .ref h_t_now_lengths, .int v_t_now_count])), (h_t_now_lengths, .inl (k_cI G, 5, .inl w_t_now_lengths)), (h_t_now_rows, .inl (k_cI G, 5, .inl w_t_now_rows))] H := hP
      have hD : va_D A [(h_t, .inr (8, [g_t_tape, g_t_reader, .ref h_t_now, g_t_acts, g_t_images, g_t_lines, g_t_landscape, g_t_told, g_t_draft, g_t_latestTrouble, g_t_latestFault, g_t_faultPlace])), (h_t_now, .inr (6, [.ref h_t_now_rows, .ref h_t_now_lengths, .int v_t_now_count])), (h_t_now_lengths, .inl (k_cI G, 5, .inl w_t_now_lengths)), (h_t_now_rows, .inl (k_cI G, 5, .inl w_t_now_rows))] := hD
      obtain ⟨t4, et4, hrun⟩ := bd_inv hrun
      refine k_calli0 C0 (k_runS (rest := []) C0 (c_X8_closes et4) (va_cwS 2 hts gX11_led_X8_closes_X rfl rfl rfl e_X8_closes.2 ⟨Nat.le_of_ble_eq_true rfl, Nat.le_of_ble_eq_true rfl⟩) hP hD hS [] rfl (by decide) rfl hl.1 rfl (Nat.le_of_ble_eq_true rfl) dX11_led_31 ⟨Nat.le_of_ble_eq_true rfl, Nat.le_of_ble_eq_true rfl⟩) hP hS (fun H locs hP hS => ?_)
      refine lv_if_ne (tgt := 47) hx hb dX11_led_34 (by decide) (fun q5 => ?_) (fun q5 => ?_)
      · replace hrun := if_f q5 hrun
        exact t_X11_led_47 C0 hst hex (fun x1 x2 x3 v_t_now_count w_t_now_lengths w_t_now_rows => f_X11_led_4 n x1 x2 x3 v_t_now_count w_t_now_lengths w_t_now_rows) ih x1 x2 x3 v_t_now_count w_t_now_lengths w_t_now_rows _ _ _ hP hD hS hl hrun
      · replace hrun := if_t q5 hrun
        refine lv_iload_n hx hb dX11_led_37 rfl (lv_at hl 2 rfl) ?_
        refine lv_iload_n hx hb dX11_led_38 rfl (lv_at hl 1 rfl) ?_
        refine lv_icmp_ne (tgt := 44) hx hb dX11_led_39 (by decide) (fun q6 => ?_) (fun q6 => ?_)
        · replace hrun := if_f q6 hrun
          refine lv_iinc (v := x2 + 1) (lv' := [(2, .int (x2 + 1)), (0, .ref h_t), (1, .int x1), (3, .int x3)]) hx hb dX11_led_44 hl (k := 2) rfl rfl (by decide) rfl (fun ls hl => ?_)
          exact t_X11_led_47 C0 hst hex (fun x1 x2 x3 v_t_now_count w_t_now_lengths w_t_now_rows => f_X11_led_4 n x1 x2 x3 v_t_now_count w_t_now_lengths w_t_now_rows) ih x1 (x2 + 1) x3 v_t_now_count w_t_now_lengths w_t_now_rows _ _ _ hP hD hS (lv_sub hl [1, 2, 0, 3] rfl) hrun
        · replace hrun := if_t q6 hrun
          refine lv_iload_n hx hb dX11_led_42 rfl (lv_at hl 3 rfl) ?_
          obtain ⟨gz7, hrun⟩ := gd_inv hrun
          obtain rfl := Option.some.inj hrun
          exact k_retx C0 hP hD hS gz7 rfl rfl dX11_led_43
set_option maxHeartbeats 4000000 in
set_option maxRecDepth 100000 in
theorem c_X11_led {l : Launch} {G : k_G} {h_t h_t_now h_t_now_lengths h_t_now_rows : Nat} {g_t_tape g_t_reader g_t_acts g_t_images g_t_lines g_t_landscape g_t_told g_t_draft g_t_latestTrouble g_t_latestFault g_t_faultPlace : Value} {sz : Nat} {p1 : Int32} {v_t_now_count : Int32} {w_t_now_lengths : Nat → Int32} {w_t_now_rows : Nat → Int32} {out : Int32} (hst : l.stackTraces = false) (hrun : f_X11_led p1 v_t_now_count w_t_now_lengths w_t_now_rows = some out) : vx_Met l yX11_led wsX11_ledX rm_X11_led (va_Pc [.ref h_t, .int p1] (k_PC G [(h_t, .inr (8, [g_t_tape, g_t_reader, .ref h_t_now, g_t_acts, g_t_images, g_t_lines, g_t_landscape, g_t_told, g_t_draft, g_t_latestTrouble, g_t_latestFault, g_t_faultPlace])), (h_t_now, .inr (6, [.ref h_t_now_rows, .ref h_t_now_lengths, .int v_t_now_count])), (h_t_now_lengths, .inl (k_cI G, 5, .inl w_t_now_lengths)), (h_t_now_rows, .inl (k_cI G, 5, .inl w_t_now_rows))] sz)) (k_Qi G (va_A [(h_t, .inr (8, [g_t_tape, g_t_reader, .ref h_t_now, g_t_acts, g_t_images, g_t_lines, g_t_landscape, g_t_told, g_t_draft, g_t_latestTrouble, g_t_latestFault, g_t_faultPlace])), (h_t_now, .inr (6, [.ref h_t_now_rows, .ref h_t_now_lengths, .int v_t_now_count])), (h_t_now_lengths, .inl (k_cI G, 5, .inl w_t_now_lengths)), (h_t_now_rows, .inl (k_cI G, 5, .inl w_t_now_rows))] sz) out (fun (_ : {u : Unit // out ≠ -1}) => [(h_t, .inr (8, [g_t_tape, g_t_reader, .ref h_t_now, g_t_acts, g_t_images, g_t_lines, g_t_landscape, g_t_told, g_t_draft, g_t_latestTrouble, g_t_latestFault, g_t_faultPlace])), (h_t_now, .inr (6, [.ref h_t_now_rows, .ref h_t_now_lengths, .int v_t_now_count])), (h_t_now_lengths, .inl (k_cI G, 5, .inl w_t_now_lengths)), (h_t_now_rows, .inl (k_cI G, 5, .inl w_t_now_rows))])) (k_XC G (va_A [(h_t, .inr (8, [g_t_tape, g_t_reader, .ref h_t_now, g_t_acts, g_t_images, g_t_lines, g_t_landscape, g_t_told, g_t_draft, g_t_latestTrouble, g_t_latestFault, g_t_faultPlace])), (h_t_now, .inr (6, [.ref h_t_now_rows, .ref h_t_now_lengths, .int v_t_now_count])), (h_t_now_lengths, .inl (k_cI G, 5, .inl w_t_now_lengths)), (h_t_now_rows, .inl (k_cI G, 5, .inl w_t_now_rows))] sz) (out = -1) [(h_t, .inr (8, [g_t_tape, g_t_reader, .ref h_t_now, g_t_acts, g_t_images, g_t_lines, g_t_landscape, g_t_told, g_t_draft, g_t_latestTrouble, g_t_latestFault, g_t_faultPlace])), (h_t_now, .inr (6, [.ref h_t_now_rows, .ref h_t_now_lengths, .int v_t_now_count])), (h_t_now_lengths, .inl (k_cI G, 5, .inl w_t_now_lengths)), (h_t_now_rows, .inl (k_cI G, 5, .inl w_t_now_rows))]) 1 6 (va_A [(h_t, .inr (8, [g_t_tape, g_t_reader, .ref h_t_now, g_t_acts, g_t_images, g_t_lines, g_t_landscape, g_t_told, g_t_draft, g_t_latestTrouble, g_t_latestFault, g_t_faultPlace])), (h_t_now, .inr (6, [.ref h_t_now_rows, .ref h_t_now_lengths, .int v_t_now_count])), (h_t_now_lengths, .inl (k_cI G, 5, .inl w_t_now_lengths)), (h_t_now_rows, .inl (k_cI G, 5, .inl w_t_now_rows))] sz) := by
  refine k_ofx (cc := cX11_led) (nL := 4) (ret := some .int) (own := RX11) (nm := "led") (by decide) rfl rfl rfl rfl ?_
  intro p e s m args below meth c ls hsz C0 hex hP hD hS hl
  have hl : lv_has ls 4 [(0, .ref h_t), (1, .int p1)] := hl
  generalize hH : s.heap = H at hP
  have hS : va_S (va_A [(h_t, .inr (8, [g_t_tape, g_t_reader, .ref h_t_now, g_t_acts, g_t_images, g_t_lines, g_t_landscape, g_t_told, g_t_draft, g_t_latestTrouble, g_t_latestFault, g_t_faultPlace])), (h_t_now, .inr (6, [.ref h_t_now_rows, .ref h_t_now_lengths, .int v_t_now_count])), (h_t_now_lengths, .inl (k_cI G, 5, .inl w_t_now_lengths)), (h_t_now_rows, .inl (k_cI G, 5, .inl w_t_now_rows))] sz) s.heap H [] := by rw [← hH]; exact hS
  clear hH
  generalize va_A [(h_t, .inr (8, [g_t_tape, g_t_reader, .ref h_t_now, g_t_acts, g_t_images, g_t_lines, g_t_landscape, g_t_told, g_t_draft, g_t_latestTrouble, g_t_latestFault, g_t_faultPlace])), (h_t_now, .inr (6, [.ref h_t_now_rows, .ref h_t_now_lengths, .int v_t_now_count])), (h_t_now_lengths, .inl (k_cI G, 5, .inl w_t_now_lengths)), (h_t_now_rows, .inl (k_cI G, 5, .inl w_t_now_rows))] sz = A at C0 hD hS ⊢
  have hx := C0.1
  have hb := C0.2.1
  have hts := C0.2.2.2.1
  have hown := C0.2.2.2.2.1
  have hK := C0.2.2.2.2.2.2.2.2.1.1
  have hNW := C0.2.2.2.2.2.2.2.2.1.2.1
  have hSF := C0.2.2.2.2.2.2.2.2.1.2.2
  rw [f_X11_led] at hrun
  refine lv_iconst (v := 0) hx hb dX11_led_0 (by decide) ?_
  refine lv_istore_n (lv' := [(2, .int (0 : Int32)), (0, .ref h_t), (1, .int p1)]) hx hb dX11_led_1 rfl hl (by decide) rfl (fun ls hl => ?_)
  refine lv_iconst (v := 0) hx hb dX11_led_2 (by decide) ?_
  refine lv_istore_n (lv' := [(3, .int (0 : Int32)), (2, .int (0 : Int32)), (0, .ref h_t), (1, .int p1)]) hx hb dX11_led_3 rfl hl (by decide) rfl (fun ls hl => ?_)
  exact t_X11_led_4 C0 hst hex kFU p1 (0 : Int32) (0 : Int32) v_t_now_count w_t_now_lengths w_t_now_rows _ _ _ hP hD hS (lv_sub hl [2, 3, 1, 0] rfl) hrun
theorem k_frameix {l : Launch} {G : k_G} {y : MethodName} {wsW : List Cond} {rm : Room} {av : List Value} {ws wc : va_W} {sz : Nat} {S : Type} {r0 : Int32} {w1 : S → va_W} {mc ms : Nat} {X XX : va_W → Prop} {th : Prop} (M : vx_Met l y wsW rm (va_Pc av (k_PC G wc sz)) (k_Qi G (va_A wc sz) r0 w1) (k_XC G (va_A wc sz) th wc) mc ms (va_A wc sz)) (isC : List Nat) (hC : isC.map (fun i => ws[i]?) = wc.map some) (hn : va_nd isC = true) (hl : ∀ u, isC.length ≤ (w1 u).length) (hX : ∀ u, X (k_upd ws isC (w1 u))) (hXX : th → XX (k_upd ws isC wc)) :
    vx_Met l y wsW rm (va_Pc av (k_PC G ws sz)) (va_Qi (fun r (u : va_W) => r = r0 ∧ X u) (fun u t => k_PB G (va_A ws sz) u t) (va_A ws sz)) (vx_X (fun (u : va_W) => XX u) (fun E u t => E = "java/util/NoSuchElementException" ∧ k_PB G (va_A ws sz) u t) (va_A ws sz)) mc ms (va_A ws sz) := by
  intro p e ha hf hc s m args below hfr happ hP hk
  obtain ⟨n, o, a1, a2, a3, H9⟩ := M p e ha hf hc s m args below hfr happ ⟨hP.1, k_PC_sub isC hC hn hP.2⟩ hk
  refine ⟨n, o, a1, a2, a3, ?_⟩
  rcases H9 with ⟨⟨⟨r, u, b1, b2, b3⟩, b4⟩, L, c1, c2⟩ | ⟨q, e1, E, ce, L, ⟨-, ht, ⟨he, b3⟩, b4⟩, z1, z2, z3, z4, z5, z6⟩
  · obtain ⟨d1, d2⟩ := k_upd_ok hP.2.1 hP.2.2.1 hP.2.2.2.2 isC hC (hl u) b3.1 b3.2 b4
    exact Or.inl ⟨⟨⟨r, _, b1, ⟨b2, hX u⟩, d1, d2⟩, b4.1, fun q h1 h2 => b4.2 q h1 (fun z => h2 (k_A_sub isC hC q z))⟩, L, c1, fun q hq => k_A_sub isC hC _ (c2 q hq)⟩
  · have hlen : isC.length ≤ wc.length := Nat.le_of_eq (by simpa using congrArg List.length hC)
    obtain ⟨d1, d2⟩ := k_upd_ok hP.2.1 hP.2.2.1 hP.2.2.2.2 isC hC hlen b3.1 b3.2 b4
    exact Or.inr ⟨q, e1, E, ce, L, ⟨_, hXX ht, ⟨he, d1, d2⟩, b4.1, fun q h1 h2 => b4.2 q h1 (fun z => h2 (k_A_sub isC hC q z))⟩, z1, z2, z3, z4, z5, fun q hq => k_A_sub isC hC _ (z6 q hq)⟩
abbrev fx_led (p1 : Int32) (σ : k_SB) : Option Int32 := f_X11_led p1 (σ.1 19) (σ.2.2.1 17) (σ.2.2.1 18)
set_option maxRecDepth 100000 in
theorem lx_led {l : Launch} {G : k_G} {h : Nat} {σ : k_SB} {w : va_W} (hw : XW G h σ w) (hst : l.stackTraces = false) {p1 : Int32} {o : Int32} (hrun : fx_led p1 σ = some o) (sz : Nat) :
    vx_Met l yX11_led wsX11_ledX rm_X11_led (va_Pc [.ref h, .int p1] (k_PC G w sz)) (va_Qi (fun r (u : va_W) => r = o ∧ (o ≠ -1 ∧ XW G h σ u)) (fun u t => k_PB G (va_A w sz) u t) (va_A w sz)) (vx_X (fun (u : va_W) => o = -1 ∧ XW G h σ u) (fun E u t => E = "java/util/NoSuchElementException" ∧ k_PB G (va_A w sz) u t) (va_A w sz)) 1 6 (va_A w sz) := by
  obtain ⟨a, rfl⟩ := hw
  exact k_frameix (X := fun u => o ≠ -1 ∧ XW G h σ u) (XX := fun u => o = -1 ∧ XW G h σ u) (c_X11_led (l := l) (G := G) (sz := sz) (h_t := h) hst hrun) [0, 25, 26, 27] rfl (by decide) (fun u => Nat.le_of_ble_eq_true rfl) (fun u => ⟨u.2, a, rfl⟩) (fun th => ⟨th, a, rfl⟩)
