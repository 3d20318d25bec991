def f_X2_power_5 : Nat → Int64 → Int32 → Int64 → Int32 → Option (Int64)
  | 0, _, _, _, _ => none
  | n + 1, x0, x2, x3, x5 =>
    if x2 ≤ x5 then
      some (x3)
    else
      (lt (x3 * x0) fun n2 =>
       f_X2_power_5 n x0 x2 n2 (x5 + 1))
def f_X2_power (p0 : Int64) (p2 : Int32) : Option (Int64) :=
  f_X2_power_5 kFU p0 p2 (1 : Int64) (0 : Int32)
def f_X2_withChanges (p0 : Int32) (p1 : Int32) (p2 : Int32) : Option (Int64) :=
  bd (f_X2_power (p0.toInt64) ((p1 - (1 : Int32)) - p2)) fun t1 =>
  bd (f_X2_power (((100 : Int32) - p0).toInt64) p2) fun t2 =>
  some (t1 * t2)
def f_X2_upToChanges_8 : Nat → Int32 → Int32 → Int32 → Int64 → Int64 → Int32 → Option (Int64)
  | 0, _, _, _, _, _, _ => none
  | n + 1, x0, x1, x2, x3, x5, x7 =>
    if x2 < x7 then
      some (x3)
    else
      (if x1 ≤ x7 then
         some (x3)
       else
         (bd (f_X2_withChanges x0 x1 x7) fun t3 =>
          lt (x3 + (x5 * t3)) fun n4 =>
          gd (¬ ((x7 + (1 : Int32)).toInt64) = 0) <|
          lt ((x5 * (((x1 - (1 : Int32)) - x7).toInt64)) / ((x7 + (1 : Int32)).toInt64)) fun n6 =>
          f_X2_upToChanges_8 n x0 x1 x2 n4 n6 (x7 + 1)))
def f_X2_upToChanges (p0 : Int32) (p1 : Int32) (p2 : Int32) : Option (Int64) :=
  f_X2_upToChanges_8 kFU p0 p1 p2 (0 : Int64) (1 : Int64) (0 : Int32)
def f_X2_meanTotal_5 : Nat → Int32 → Int32 → Int64 → Int32 → Option (Int64)
  | 0, _, _, _, _ => none
  | n + 1, x0, x1, x2, x4 =>
    if x1 ≤ x4 then
      some (x2)
    else
      (bd (f_X2_power ((((2 : Int32) * x0) - (100 : Int32)).toInt64) x4) fun t2 =>
       bd (f_X2_power (100 : Int64) ((x1 - (1 : Int32)) - x4)) fun t3 =>
       lt (x2 + (t2 * t3)) fun n4 =>
       f_X2_meanTotal_5 n x0 x1 n4 (x4 + 1))
def f_X2_meanTotal (p0 : Int32) (p1 : Int32) : Option (Int64) :=
  f_X2_meanTotal_5 kFU p0 p1 (0 : Int64) (0 : Int32)
def f_X2_drawBehind (p0 : Int32) : Option (Int32) :=
  some ((((75 : Int32) * p0) + (74 : Int32)) - (((75 : Int32) * p0) + (74 : Int32)) / (65537 : Int32) * (65537 : Int32))
def f_X2_rowBy_47 (k8 : Int32 → Int32 → Int32 → Int32 → Int32 → Option (Int32)) (x0 : Int32) (x2 : Int32) (x4 : Int32) (x5 : Int32) (s0 : Int32) (s1 : Int32) : Option (Int32) :=
  lt (s0 + s1) fun n1 =>
  k8 x0 x2 n1 x4 (x5 + 1)
def f_X2_rowBy_8 : Nat → Int32 → Int32 → Int32 → Int32 → Int32 → Option (Int32)
  | 0, _, _, _, _, _ => none
  | n + 1, x0, x2, x3, x4, x5 =>
    if x2 ≤ x5 then
      some (x3)
    else
      (bd (f_X2_drawBehind x4) fun t2 =>
       lt (x3 &&& (1 : Int32)) fun n3 =>
       if x0 ≤ (t2 - t2 / (100 : Int32) * (100 : Int32)) then
         f_X2_rowBy_47 (fun x0 x2 x3 x4 x5 => f_X2_rowBy_8 n x0 x2 x3 x4 x5) x0 x2 t2 x5 (x3 * (2 : Int32)) ((1 : Int32) - n3)
       else
         f_X2_rowBy_47 (fun x0 x2 x3 x4 x5 => f_X2_rowBy_8 n x0 x2 x3 x4 x5) x0 x2 t2 x5 (x3 * (2 : Int32)) n3)
def f_X2_rowBy (p0 : Int32) (p1 : Int32) (p2 : Int32) : Option (Int32) :=
  f_X2_rowBy_8 kFU p0 p2 (1 : Int32) p1 (1 : Int32)
def f_X2_longestBy_41 (k11 : Int32 → Int32 → Int32 → Int32 → Int32 → Int32 → Option (Int32)) (x0 : Int32) (x2 : Int32) (x3 : Int32) (x5 : Int32) (x6 : Int32) (s0 : Int32) : Option (Int32) :=
  lt (if x3 < s0 then s0 else x3) fun n1 =>
  k11 x0 x2 n1 s0 x5 (x6 + 1)
def f_X2_longestBy_11 : Nat → Int32 → Int32 → Int32 → Int32 → Int32 → Int32 → Option (Int32)
  | 0, _, _, _, _, _, _ => none
  | n + 1, x0, x2, x3, x4, x5, x6 =>
    if x2 ≤ x6 then
      some (x3)
    else
      (bd (f_X2_drawBehind x5) fun t2 =>
       if x0 ≤ (t2 - t2 / (100 : Int32) * (100 : Int32)) then
         f_X2_longestBy_41 (fun x0 x2 x3 x4 x5 x6 => f_X2_longestBy_11 n x0 x2 x3 x4 x5 x6) x0 x2 x3 t2 x6 (1 : Int32)
       else
         f_X2_longestBy_41 (fun x0 x2 x3 x4 x5 x6 => f_X2_longestBy_11 n x0 x2 x3 x4 x5 x6) x0 x2 x3 t2 x6 (x4 + (1 : Int32)))
def f_X2_longestBy (p0 : Int32) (p1 : Int32) (p2 : Int32) : Option (Int32) :=
  f_X2_longestBy_11 kFU p0 p2 (1 : Int32) (1 : Int32) p1 (1 : Int32)
abbrev rm_X2_power : Room := { frames := 0, cells := 0, slots := 0, locals := 0 }
theorem e_X2_power : yX2_power.cls = RX2 ∧ yX2_power.cls ≠ "java/lang/invoke/MethodHandle" ∧ yX2_power.cls ≠ "java/lang/invoke/VarHandle" ∧ (parseMethodDescriptor yX2_power.desc).map (fun d => d.parameters.length) = some 2 := by decide +kernel
set_option maxHeartbeats 4000000 in
set_option maxRecDepth 100000 in
theorem t_X2_power_5 {l : Launch} {G : k_G} {p : Program} {e : Env} {s : State} {m : MethodId} {args : Array Value} {below : List Frame} {meth : Method} {c : Code} {A : Nat → Prop} {out : Int64} (C0 : k_C G p s m args meth c A cX2_power RX2 wsX2_power 6 (some .long) "power") : ∀ (n : Nat) (x0 : Int64) (x2 : Int32) (x3 : Int64) (x5 : Int32) (H : Heap) (locs : List Loc) (ls : Array Slot), va_P G.1 vwCl [] H → va_D A [] → va_S A s.heap H locs → lv_has ls 6 [(0, .long x0), (2, .int x2), (3, .long x3), (5, .int x5)] → f_X2_power_5 n x0 x2 x3 x5 = some out → W p l e rm_X2_power s m args below meth c H locs 0 0 (MQ below (k_Ql G A out (fun (_ : Unit) => [])) args s 0 0 A) (F0 m 5 ls []) := by
  have hx := C0.1
  have hb := C0.2.1
  have hts := C0.2.2.2.1
  have hown := C0.2.2.2.2.1
  have hK := C0.2.2.2.2.2.2.2.2.1.1
  have hNW := C0.2.2.2.2.2.2.2.2.1.2.1
  have hSF := C0.2.2.2.2.2.2.2.2.1.2.2
  intro n
  induction n with
  | zero =>
    intro x0 x2 x3 x5 H locs ls hP hD hS hl hrun
    rw [f_X2_power_5] at hrun
    cases hrun
  | succ n ih =>
    intro x0 x2 x3 x5 H locs ls hP hD hS hl hrun
    rw [f_X2_power_5] at hrun
    refine lv_iload hx hb dX2_power_5 (lv_at hl 3 rfl) ?_
    refine lv_iload_n hx hb dX2_power_7 rfl (lv_at hl 1 rfl) ?_
    refine lv_icmp_ge (tgt := 21) hx hb dX2_power_8 (by decide) (fun q1 => ?_) (fun q1 => ?_)
    · replace hrun := if_t q1 hrun
      refine lv_lload_n hx hb dX2_power_21 rfl (lv_at hl 2 rfl) ?_
      obtain rfl := Option.some.inj hrun
      exact k_retl C0 hP hD hS () rfl rfl dX2_power_22
    · replace hrun := if_f q1 hrun
      refine lv_lload_n hx hb dX2_power_11 rfl (lv_at hl 2 rfl) ?_
      refine lv_lload_n hx hb dX2_power_12 rfl (lv_at hl 0 rfl) ?_
      refine lv_lmul hx hb dX2_power_13 ?_
      obtain ⟨n2, en, hrun⟩ := lt_inv hrun
      refine k_nml en ?_
      clear en
      refine lv_lstore_n (lv' := [(3, .long n2), (0, .long x0), (2, .int x2), (5, .int x5)]) hx hb dX2_power_14 rfl hl (by decide) rfl (fun ls hl => ?_)
      refine lv_iinc (v := x5 + 1) (lv' := [(5, .int (x5 + 1)), (3, .long n2), (0, .long x0), (2, .int x2)]) hx hb dX2_power_15 hl (k := 3) rfl rfl (by decide) rfl (fun ls hl => ?_)
      refine lv_goto (tgt := 5) hx hb dX2_power_18 (by decide) ?_
      exact ih x0 x2 n2 (x5 + 1) _ _ _ hP hD hS (lv_sub hl [2, 3, 1, 0] rfl) hrun
set_option maxHeartbeats 4000000 in
set_option maxRecDepth 100000 in
theorem c_X2_power {l : Launch} {G : k_G} {sz : Nat} {p0 : Int64} {p2 : Int32} {out : Int64} (hrun : f_X2_power p0 p2 = some out) : k_Cl l G yX2_power wsX2_power rm_X2_power [.long p0, .int p2] [] sz out (fun (_ : Unit) => []) 0 0 := by
  refine k_of (cc := cX2_power) (nL := 6) (ret := some .long) (own := RX2) (nm := "power") (by decide) rfl rfl rfl rfl ?_
  intro p e s m args below meth c ls hsz C0 hP hD hS hl
  have hl : lv_has ls 6 [(0, .long p0), (2, .int p2)] := hl
  generalize hH : s.heap = H at hP
  have hS : va_S (va_A [] sz) s.heap H [] := by rw [← hH]; exact hS
  clear hH
  generalize va_A [] sz = A at C0 hD hS ⊢
  have hx := C0.1
  have hb := C0.2.1
  have hts := C0.2.2.2.1
  have hown := C0.2.2.2.2.1
  have hK := C0.2.2.2.2.2.2.2.2.1.1
  have hNW := C0.2.2.2.2.2.2.2.2.1.2.1
  have hSF := C0.2.2.2.2.2.2.2.2.1.2.2
  rw [f_X2_power] at hrun
  refine lv_lconst (v := 1) hx hb dX2_power_0 (by decide) ?_
  refine lv_lstore_n (lv' := [(3, .long (1 : Int64)), (0, .long p0), (2, .int p2)]) hx hb dX2_power_1 rfl hl (by decide) rfl (fun ls hl => ?_)
  refine lv_iconst (v := 0) hx hb dX2_power_2 (by decide) ?_
  refine lv_istore (lv' := [(5, .int (0 : Int32)), (3, .long (1 : Int64)), (0, .long p0), (2, .int p2)]) hx hb dX2_power_3 hl (by decide) rfl (fun ls hl => ?_)
  exact t_X2_power_5 C0 kFU p0 p2 (1 : Int64) (0 : Int32) _ _ _ hP hD hS (lv_sub hl [2, 3, 1, 0] rfl) hrun
abbrev rm_X2_withChanges : Room := { frames := 1, cells := 0, slots := 0, locals := 25 }
theorem e_X2_withChanges : yX2_withChanges.cls = RX2 ∧ yX2_withChanges.cls ≠ "java/lang/invoke/MethodHandle" ∧ yX2_withChanges.cls ≠ "java/lang/invoke/VarHandle" ∧ (parseMethodDescriptor yX2_withChanges.desc).map (fun d => d.parameters.length) = some 3 := by decide +kernel
set_option maxHeartbeats 4000000 in
set_option maxRecDepth 100000 in
theorem c_X2_withChanges {l : Launch} {G : k_G} {sz : Nat} {p0 : Int32} {p1 : Int32} {p2 : Int32} {out : Int64} (hrun : f_X2_withChanges p0 p1 p2 = some out) : k_Cl l G yX2_withChanges wsX2_withChanges rm_X2_withChanges [.int p0, .int p1, .int p2] [] sz out (fun (_ : Unit) => []) 0 0 := by
  refine k_of (cc := cX2_withChanges) (nL := 3) (ret := some .long) (own := RX2) (nm := "withChanges") (by decide) rfl rfl rfl rfl ?_
  intro p e s m args below meth c ls hsz C0 hP hD hS hl
  have hl : lv_has ls 3 [(0, .int p0), (1, .int p1), (2, .int p2)] := hl
  generalize hH : s.heap = H at hP
  have hS : va_S (va_A [] sz) s.heap H [] := by rw [← hH]; exact hS
  clear hH
  generalize va_A [] sz = A at C0 hD hS ⊢
  have hx := C0.1
  have hb := C0.2.1
  have hts := C0.2.2.2.1
  have hown := C0.2.2.2.2.1
  have hK := C0.2.2.2.2.2.2.2.2.1.1
  have hNW := C0.2.2.2.2.2.2.2.2.1.2.1
  have hSF := C0.2.2.2.2.2.2.2.2.1.2.2
  rw [f_X2_withChanges] at hrun
  refine lv_iload_n hx hb dX2_withChanges_0 rfl (lv_at hl 0 rfl) ?_
  refine lv_i2l hx hb dX2_withChanges_1 rfl ?_
  refine lv_iload_n hx hb dX2_withChanges_2 rfl (lv_at hl 1 rfl) ?_
  refine lv_iconst (v := 1) hx hb dX2_withChanges_3 (by decide) ?_
  refine lv_isub hx hb dX2_withChanges_4 ?_
  refine lv_iload_n hx hb dX2_withChanges_5 rfl (lv_at hl 2 rfl) ?_
  refine lv_isub hx hb dX2_withChanges_6 ?_
  obtain ⟨t1, et1, hrun⟩ := bd_inv hrun
  refine k_calll0 C0 (k_runS (rest := []) C0 (c_X2_power et1) (va_cwS 2 hts gX2_withChanges_X2_power rfl rfl rfl e_X2_power.2 ⟨Nat.le_of_ble_eq_true rfl, Nat.le_of_ble_eq_true rfl⟩) hP hD hS [] rfl (by decide) rfl hl.1 rfl (Nat.le_of_ble_eq_true rfl) dX2_withChanges_7 ⟨Nat.le_of_ble_eq_true rfl, Nat.le_of_ble_eq_true rfl⟩) hP hS (fun H locs hP hS => ?_)
  refine lv_bipush (v := 100) hx hb dX2_withChanges_10 (by decide) ?_
  refine lv_iload_n hx hb dX2_withChanges_12 rfl (lv_at hl 0 rfl) ?_
  refine lv_isub hx hb dX2_withChanges_13 ?_
  refine lv_i2l hx hb dX2_withChanges_14 rfl ?_
  refine lv_iload_n hx hb dX2_withChanges_15 rfl (lv_at hl 2 rfl) ?_
  obtain ⟨t2, et2, hrun⟩ := bd_inv hrun
  refine k_calll0 C0 (k_runS (rest := [.long t1]) C0 (c_X2_power et2) (va_cwS 2 hts gX2_withChanges_X2_power rfl rfl rfl e_X2_power.2 ⟨Nat.le_of_ble_eq_true rfl, Nat.le_of_ble_eq_true rfl⟩) hP hD hS [] rfl (by decide) rfl hl.1 rfl (Nat.le_of_ble_eq_true rfl) dX2_withChanges_16 ⟨Nat.le_of_ble_eq_true rfl, Nat.le_of_ble_eq_true rfl⟩) hP hS (fun H locs hP hS => ?_)
  refine lv_lmul hx hb dX2_withChanges_19 ?_
  obtain rfl := Option.some.inj hrun
  exact k_retl C0 hP hD hS () rfl rfl dX2_withChanges_20
abbrev rm_X2_upToChanges : Room := { frames := 2, cells := 0, slots := 0, locals := 47 }
theorem e_X2_upToChanges : yX2_upToChanges.cls = RX2 ∧ yX2_upToChanges.cls ≠ "java/lang/invoke/MethodHandle" ∧ yX2_upToChanges.cls ≠ "java/lang/invoke/VarHandle" ∧ (parseMethodDescriptor yX2_upToChanges.desc).map (fun d => d.parameters.length) = some 3 := by decide +kernel
set_option maxHeartbeats 4000000 in
set_option maxRecDepth 100000 in
theorem t_X2_upToChanges_8 {l : Launch} {G : k_G} {p : Program} {e : Env} {s : State} {m : MethodId} {args : Array Value} {below : List Frame} {meth : Method} {c : Code} {A : Nat → Prop} {out : Int64} (C0 : k_C G p s m args meth c A cX2_upToChanges RX2 wsX2_upToChanges 8 (some .long) "upToChanges") : ∀ (n : Nat) (x0 : Int32) (x1 : Int32) (x2 : Int32) (x3 : Int64) (x5 : Int64) (x7 : Int32) (H : Heap) (locs : List Loc) (ls : Array Slot), va_P G.1 vwCl [] H → va_D A [] → va_S A s.heap H locs → lv_has ls 8 [(0, .int x0), (1, .int x1), (2, .int x2), (3, .long x3), (5, .long x5), (7, .int x7)] → f_X2_upToChanges_8 n x0 x1 x2 x3 x5 x7 = some out → W p l e rm_X2_upToChanges s m args below meth c H locs 0 0 (MQ below (k_Ql G A out (fun (_ : Unit) => [])) args s 0 0 A) (F0 m 8 ls []) := by
  have hx := C0.1
  have hb := C0.2.1
  have hts := C0.2.2.2.1
  have hown := C0.2.2.2.2.1
  have hK := C0.2.2.2.2.2.2.2.2.1.1
  have hNW := C0.2.2.2.2.2.2.2.2.1.2.1
  have hSF := C0.2.2.2.2.2.2.2.2.1.2.2
  intro n
  induction n with
  | zero =>
    intro x0 x1 x2 x3 x5 x7 H locs ls hP hD hS hl hrun
    rw [f_X2_upToChanges_8] at hrun
    cases hrun
  | succ n ih =>
    intro x0 x1 x2 x3 x5 x7 H locs ls hP hD hS hl hrun
    rw [f_X2_upToChanges_8] at hrun
    refine lv_iload hx hb dX2_upToChanges_8 (lv_at hl 5 rfl) ?_
    refine lv_iload_n hx hb dX2_upToChanges_10 rfl (lv_at hl 2 rfl) ?_
    refine lv_icmp_gt (tgt := 57) hx hb dX2_upToChanges_11 (by decide) (fun q1 => ?_) (fun q1 => ?_)
    · replace hrun := if_t q1 hrun
      refine lv_lload_n hx hb dX2_upToChanges_57 rfl (lv_at hl 3 rfl) ?_
      obtain rfl := Option.some.inj hrun
      exact k_retl C0 hP hD hS () rfl rfl dX2_upToChanges_58
    · replace hrun := if_f q1 hrun
      refine lv_iload hx hb dX2_upToChanges_14 (lv_at hl 5 rfl) ?_
      refine lv_iload_n hx hb dX2_upToChanges_16 rfl (lv_at hl 1 rfl) ?_
      refine lv_icmp_ge (tgt := 57) hx hb dX2_upToChanges_17 (by decide) (fun q2 => ?_) (fun q2 => ?_)
      · replace hrun := if_t q2 hrun
        refine lv_lload_n hx hb dX2_upToChanges_57 rfl (lv_at hl 3 rfl) ?_
        obtain rfl := Option.some.inj hrun
        exact k_retl C0 hP hD hS () rfl rfl dX2_upToChanges_58
      · replace hrun := if_f q2 hrun
        refine lv_lload_n hx hb dX2_upToChanges_20 rfl (lv_at hl 3 rfl) ?_
        refine lv_lload hx hb dX2_upToChanges_21 (lv_at hl 4 rfl) ?_
        refine lv_iload_n hx hb dX2_upToChanges_23 rfl (lv_at hl 0 rfl) ?_
        refine lv_iload_n hx hb dX2_upToChanges_24 rfl (lv_at hl 1 rfl) ?_
        refine lv_iload hx hb dX2_upToChanges_25 (lv_at hl 5 rfl) ?_
        obtain ⟨t3, et3, hrun⟩ := bd_inv hrun
        refine k_calll0 C0 (k_runS (rest := [.long x5, .long x3]) C0 (c_X2_withChanges et3) (va_cwS 3 hts gX2_upToChanges_X2_withChanges rfl rfl rfl e_X2_withChanges.2 ⟨Nat.le_of_ble_eq_true rfl, Nat.le_of_ble_eq_true rfl⟩) hP hD hS [] rfl (by decide) rfl hl.1 rfl (Nat.le_of_ble_eq_true rfl) dX2_upToChanges_27 ⟨Nat.le_of_ble_eq_true rfl, Nat.le_of_ble_eq_true rfl⟩) hP hS (fun H locs hP hS => ?_)
        refine lv_lmul hx hb dX2_upToChanges_30 ?_
        refine lv_ladd hx hb dX2_upToChanges_31 ?_
        obtain ⟨n4, en, hrun⟩ := lt_inv hrun
        refine k_nml en ?_
        clear en
        refine lv_lstore_n (lv' := [(3, .long n4), (0, .int x0), (1, .int x1), (2, .int x2), (5, .long x5), (7, .int x7)]) hx hb dX2_upToChanges_32 rfl hl (by decide) rfl (fun ls hl => ?_)
        refine lv_lload hx hb dX2_upToChanges_33 (lv_at hl 4 rfl) ?_
        refine lv_iload_n hx hb dX2_upToChanges_35 rfl (lv_at hl 2 rfl) ?_
        refine lv_iconst (v := 1) hx hb dX2_upToChanges_36 (by decide) ?_
        refine lv_isub hx hb dX2_upToChanges_37 ?_
        refine lv_iload hx hb dX2_upToChanges_38 (lv_at hl 5 rfl) ?_
        refine lv_isub hx hb dX2_upToChanges_40 ?_
        refine lv_i2l hx hb dX2_upToChanges_41 rfl ?_
        refine lv_lmul hx hb dX2_upToChanges_42 ?_
        refine lv_iload hx hb dX2_upToChanges_43 (lv_at hl 5 rfl) ?_
        refine lv_iconst (v := 1) hx hb dX2_upToChanges_45 (by decide) ?_
        refine lv_iadd hx hb dX2_upToChanges_46 ?_
        refine lv_i2l hx hb dX2_upToChanges_47 rfl ?_
        obtain ⟨gz5, hrun⟩ := gd_inv hrun
        refine lv_ldiv hx hb dX2_upToChanges_48 gz5 ?_
        obtain ⟨n6, en, hrun⟩ := lt_inv hrun
        refine k_nml en ?_
        clear en
        refine lv_lstore (lv' := [(5, .long n6), (3, .long n4), (0, .int x0), (1, .int x1), (2, .int x2), (7, .int x7)]) hx hb dX2_upToChanges_49 hl (by decide) rfl (fun ls hl => ?_)
        refine lv_iinc (v := x7 + 1) (lv' := [(7, .int (x7 + 1)), (5, .long n6), (3, .long n4), (0, .int x0), (1, .int x1), (2, .int x2)]) hx hb dX2_upToChanges_51 hl (k := 5) rfl rfl (by decide) rfl (fun ls hl => ?_)
        refine lv_goto (tgt := 8) hx hb dX2_upToChanges_54 (by decide) ?_
        exact ih x0 x1 x2 n4 n6 (x7 + 1) _ _ _ hP hD hS (lv_sub hl [3, 4, 5, 2, 1, 0] rfl) hrun
set_option maxHeartbeats 4000000 in
set_option maxRecDepth 100000 in
theorem c_X2_upToChanges {l : Launch} {G : k_G} {sz : Nat} {p0 : Int32} {p1 : Int32} {p2 : Int32} {out : Int64} (hrun : f_X2_upToChanges p0 p1 p2 = some out) : k_Cl l G yX2_upToChanges wsX2_upToChanges rm_X2_upToChanges [.int p0, .int p1, .int p2] [] sz out (fun (_ : Unit) => []) 0 0 := by
  refine k_of (cc := cX2_upToChanges) (nL := 8) (ret := some .long) (own := RX2) (nm := "upToChanges") (by decide) rfl rfl rfl rfl ?_
  intro p e s m args below meth c ls hsz C0 hP hD hS hl
  have hl : lv_has ls 8 [(0, .int p0), (1, .int p1), (2, .int p2)] := hl
  generalize hH : s.heap = H at hP
  have hS : va_S (va_A [] sz) s.heap H [] := by rw [← hH]; exact hS
  clear hH
  generalize va_A [] sz = A at C0 hD hS ⊢
  have hx := C0.1
  have hb := C0.2.1
  have hts := C0.2.2.2.1
  have hown := C0.2.2.2.2.1
  have hK := C0.2.2.2.2.2.2.2.2.1.1
  have hNW := C0.2.2.2.2.2.2.2.2.1.2.1
  have hSF := C0.2.2.2.2.2.2.2.2.1.2.2
  rw [f_X2_upToChanges] at hrun
  refine lv_lconst (v := 0) hx hb dX2_upToChanges_0 (by decide) ?_
  refine lv_lstore_n (lv' := [(3, .long (0 : Int64)), (0, .int p0), (1, .int p1), (2, .int p2)]) hx hb dX2_upToChanges_1 rfl hl (by decide) rfl (fun ls hl => ?_)
  refine lv_lconst (v := 1) hx hb dX2_upToChanges_2 (by decide) ?_
  refine lv_lstore (lv' := [(5, .long (1 : Int64)), (3, .long (0 : Int64)), (0, .int p0), (1, .int p1), (2, .int p2)]) hx hb dX2_upToChanges_3 hl (by decide) rfl (fun ls hl => ?_)
  refine lv_iconst (v := 0) hx hb dX2_upToChanges_5 (by decide) ?_
  refine lv_istore (lv' := [(7, .int (0 : Int32)), (5, .long (1 : Int64)), (3, .long (0 : Int64)), (0, .int p0), (1, .int p1), (2, .int p2)]) hx hb dX2_upToChanges_6 hl (by decide) rfl (fun ls hl => ?_)
  exact t_X2_upToChanges_8 C0 kFU p0 p1 p2 (0 : Int64) (1 : Int64) (0 : Int32) _ _ _ hP hD hS (lv_sub hl [3, 4, 5, 2, 1, 0] rfl) hrun
theorem u_X2_meanTotal_1 : (Cond.constantLong RX2 17 (100)) ∈ wsX2_meanTotal := List.mem_of_getElem? (i := 1) (by decide +kernel)
abbrev rm_X2_meanTotal : Room := { frames := 1, cells := 0, slots := 0, locals := 25 }
theorem e_X2_meanTotal : yX2_meanTotal.cls = RX2 ∧ yX2_meanTotal.cls ≠ "java/lang/invoke/MethodHandle" ∧ yX2_meanTotal.cls ≠ "java/lang/invoke/VarHandle" ∧ (parseMethodDescriptor yX2_meanTotal.desc).map (fun d => d.parameters.length) = some 2 := by decide +kernel
set_option maxHeartbeats 4000000 in
set_option maxRecDepth 100000 in
theorem t_X2_meanTotal_5 {l : Launch} {G : k_G} {p : Program} {e : Env} {s : State} {m : MethodId} {args : Array Value} {below : List Frame} {meth : Method} {c : Code} {A : Nat → Prop} {out : Int64} (C0 : k_C G p s m args meth c A cX2_meanTotal RX2 wsX2_meanTotal 5 (some .long) "meanTotal") : ∀ (n : Nat) (x0 : Int32) (x1 : Int32) (x2 : Int64) (x4 : Int32) (H : Heap) (locs : List Loc) (ls : Array Slot), va_P G.1 vwCl [] H → va_D A [] → va_S A s.heap H locs → lv_has ls 5 [(0, .int x0), (1, .int x1), (2, .long x2), (4, .int x4)] → f_X2_meanTotal_5 n x0 x1 x2 x4 = some out → W p l e rm_X2_meanTotal s m args below meth c H locs 0 0 (MQ below (k_Ql G A out (fun (_ : Unit) => [])) args s 0 0 A) (F0 m 5 ls []) := by
  have hx := C0.1
  have hb := C0.2.1
  have hts := C0.2.2.2.1
  have hown := C0.2.2.2.2.1
  have hK := C0.2.2.2.2.2.2.2.2.1.1
  have hNW := C0.2.2.2.2.2.2.2.2.1.2.1
  have hSF := C0.2.2.2.2.2.2.2.2.1.2.2
  intro n
  induction n with
  | zero =>
    intro x0 x1 x2 x4 H locs ls hP hD hS hl hrun
    rw [f_X2_meanTotal_5] at hrun
    cases hrun
  | succ n ih =>
    intro x0 x1 x2 x4 H locs ls hP hD hS hl hrun
    rw [f_X2_meanTotal_5] at hrun
    refine lv_iload hx hb dX2_meanTotal_5 (lv_at hl 3 rfl) ?_
    refine lv_iload_n hx hb dX2_meanTotal_7 rfl (lv_at hl 1 rfl) ?_
    refine lv_icmp_ge (tgt := 45) hx hb dX2_meanTotal_8 (by decide) (fun q1 => ?_) (fun q1 => ?_)
    · replace hrun := if_t q1 hrun
      refine lv_lload_n hx hb dX2_meanTotal_45 rfl (lv_at hl 2 rfl) ?_
      obtain rfl := Option.some.inj hrun
      exact k_retl C0 hP hD hS () rfl rfl dX2_meanTotal_46
    · replace hrun := if_f q1 hrun
      refine lv_lload_n hx hb dX2_meanTotal_11 rfl (lv_at hl 2 rfl) ?_
      refine lv_iconst (v := 2) hx hb dX2_meanTotal_12 (by decide) ?_
      refine lv_iload_n hx hb dX2_meanTotal_13 rfl (lv_at hl 0 rfl) ?_
      refine lv_imul hx hb dX2_meanTotal_14 ?_
      refine lv_bipush (v := 100) hx hb dX2_meanTotal_15 (by decide) ?_
      refine lv_isub hx hb dX2_meanTotal_17 ?_
      refine lv_i2l hx hb dX2_meanTotal_18 rfl ?_
      refine lv_iload hx hb dX2_meanTotal_19 (lv_at hl 3 rfl) ?_
      obtain ⟨t2, et2, hrun⟩ := bd_inv hrun
      refine k_calll0 C0 (k_runS (rest := [.long x2]) C0 (c_X2_power et2) (va_cwS 2 hts gX2_meanTotal_X2_power rfl rfl rfl e_X2_power.2 ⟨Nat.le_of_ble_eq_true rfl, Nat.le_of_ble_eq_true rfl⟩) hP hD hS [] rfl (by decide) rfl hl.1 rfl (Nat.le_of_ble_eq_true rfl) dX2_meanTotal_21 ⟨Nat.le_of_ble_eq_true rfl, Nat.le_of_ble_eq_true rfl⟩) hP hS (fun H locs hP hS => ?_)
      refine lv_ldc2 (v := 100) hx hb hown (hts _ u_X2_meanTotal_1) dX2_meanTotal_24 ?_
      refine lv_iload_n hx hb dX2_meanTotal_27 rfl (lv_at hl 1 rfl) ?_
      refine lv_iconst (v := 1) hx hb dX2_meanTotal_28 (by decide) ?_
      refine lv_isub hx hb dX2_meanTotal_29 ?_
      refine lv_iload hx hb dX2_meanTotal_30 (lv_at hl 3 rfl) ?_
      refine lv_isub hx hb dX2_meanTotal_32 ?_
      obtain ⟨t3, et3, hrun⟩ := bd_inv hrun
      refine k_calll0 C0 (k_runS (rest := [.long t2, .long x2]) C0 (c_X2_power et3) (va_cwS 2 hts gX2_meanTotal_X2_power rfl rfl rfl e_X2_power.2 ⟨Nat.le_of_ble_eq_true rfl, Nat.le_of_ble_eq_true rfl⟩) hP hD hS [] rfl (by decide) rfl hl.1 rfl (Nat.le_of_ble_eq_true rfl) dX2_meanTotal_33 ⟨Nat.le_of_ble_eq_true rfl, Nat.le_of_ble_eq_true rfl⟩) hP hS (fun H locs hP hS => ?_)
      refine lv_lmul hx hb dX2_meanTotal_36 ?_
      refine lv_ladd hx hb dX2_meanTotal_37 ?_
      obtain ⟨n4, en, hrun⟩ := lt_inv hrun
      refine k_nml en ?_
      clear en
      refine lv_lstore_n (lv' := [(2, .long n4), (0, .int x0), (1, .int x1), (4, .int x4)]) hx hb dX2_meanTotal_38 rfl hl (by decide) rfl (fun ls hl => ?_)
      refine lv_iinc (v := x4 + 1) (lv' := [(4, .int (x4 + 1)), (2, .long n4), (0, .int x0), (1, .int x1)]) hx hb dX2_meanTotal_39 hl (k := 3) rfl rfl (by decide) rfl (fun ls hl => ?_)
      refine lv_goto (tgt := 5) hx hb dX2_meanTotal_42 (by decide) ?_
      exact ih x0 x1 n4 (x4 + 1) _ _ _ hP hD hS (lv_sub hl [2, 3, 1, 0] rfl) hrun
set_option maxHeartbeats 4000000 in
set_option maxRecDepth 100000 in
theorem c_X2_meanTotal {l : Launch} {G : k_G} {sz : Nat} {p0 : Int32} {p1 : Int32} {out : Int64} (hrun : f_X2_meanTotal p0 p1 = some out) : k_Cl l G yX2_meanTotal wsX2_meanTotal rm_X2_meanTotal [.int p0, .int p1] [] sz out (fun (_ : Unit) => []) 0 0 := by
  refine k_of (cc := cX2_meanTotal) (nL := 5) (ret := some .long) (own := RX2) (nm := "meanTotal") (by decide) rfl rfl rfl rfl ?_
  intro p e s m args below meth c ls hsz C0 hP hD hS hl
  have hl : lv_has ls 5 [(0, .int p0), (1, .int p1)] := hl
  generalize hH : s.heap = H at hP
  have hS : va_S (va_A [] sz) s.heap H [] := by rw [← hH]; exact hS
  clear hH
  generalize va_A [] sz = A at C0 hD hS ⊢
  have hx := C0.1
  have hb := C0.2.1
  have hts := C0.2.2.2.1
  have hown := C0.2.2.2.2.1
  have hK := C0.2.2.2.2.2.2.2.2.1.1
  have hNW := C0.2.2.2.2.2.2.2.2.1.2.1
  have hSF := C0.2.2.2.2.2.2.2.2.1.2.2
  rw [f_X2_meanTotal] at hrun
  refine lv_lconst (v := 0) hx hb dX2_meanTotal_0 (by decide) ?_
  refine lv_lstore_n (lv' := [(2, .long (0 : Int64)), (0, .int p0), (1, .int p1)]) hx hb dX2_meanTotal_1 rfl hl (by decide) rfl (fun ls hl => ?_)
  refine lv_iconst (v := 0) hx hb dX2_meanTotal_2 (by decide) ?_
  refine lv_istore (lv' := [(4, .int (0 : Int32)), (2, .long (0 : Int64)), (0, .int p0), (1, .int p1)]) hx hb dX2_meanTotal_3 hl (by decide) rfl (fun ls hl => ?_)
  exact t_X2_meanTotal_5 C0 kFU p0 p1 (0 : Int64) (0 : Int32) _ _ _ hP hD hS (lv_sub hl [2, 3, 1, 0] rfl) hrun
theorem u_X2_drawBehind_1 : (Cond.constant RX2 19 (65537)) ∈ wsX2_drawBehind := List.mem_of_getElem? (i := 1) (by decide +kernel)
abbrev rm_X2_drawBehind : Room := { frames := 0, cells := 0, slots := 0, locals := 0 }
theorem e_X2_drawBehind : yX2_drawBehind.cls = RX2 ∧ yX2_drawBehind.cls ≠ "java/lang/invoke/MethodHandle" ∧ yX2_drawBehind.cls ≠ "java/lang/invoke/VarHandle" ∧ (parseMethodDescriptor yX2_drawBehind.desc).map (fun d => d.parameters.length) = some 1 := by decide +kernel
set_option maxHeartbeats 4000000 in
set_option maxRecDepth 100000 in
theorem c_X2_drawBehind {l : Launch} {G : k_G} {sz : Nat} {p0 : Int32} {out : Int32} (hrun : f_X2_drawBehind p0 = some out) : k_Ci l G yX2_drawBehind wsX2_drawBehind rm_X2_drawBehind [.int p0] [] sz out (fun (_ : Unit) => []) 0 0 := by
  refine k_of (cc := cX2_drawBehind) (nL := 1) (ret := some .int) (own := RX2) (nm := "drawBehind") (by decide) rfl rfl rfl rfl ?_
  intro p e s m args below meth c ls hsz C0 hP hD hS hl
  have hl : lv_has ls 1 [(0, .int p0)] := hl
  generalize hH : s.heap = H at hP
  have hS : va_S (va_A [] sz) s.heap H [] := by rw [← hH]; exact hS
  clear hH
  generalize va_A [] sz = A at C0 hD hS ⊢
  have hx := C0.1
  have hb := C0.2.1
  have hts := C0.2.2.2.1
  have hown := C0.2.2.2.2.1
  have hK := C0.2.2.2.2.2.2.2.2.1.1
  have hNW := C0.2.2.2.2.2.2.2.2.1.2.1
  have hSF := C0.2.2.2.2.2.2.2.2.1.2.2
  rw [f_X2_drawBehind] at hrun
  refine lv_bipush (v := 75) hx hb dX2_drawBehind_0 (by decide) ?_
  refine lv_iload_n hx hb dX2_drawBehind_2 rfl (lv_at hl 0 rfl) ?_
  refine lv_imul hx hb dX2_drawBehind_3 ?_
  refine lv_bipush (v := 74) hx hb dX2_drawBehind_4 (by decide) ?_
  refine lv_iadd hx hb dX2_drawBehind_6 ?_
  refine lv_ldc (v := 65537) hx hb hown (hts _ u_X2_drawBehind_1) dX2_drawBehind_7 ?_
  refine lv_irem hx hb dX2_drawBehind_9 (by decide) ?_
  obtain rfl := Option.some.inj hrun
  exact k_reti C0 hP hD hS () rfl rfl dX2_drawBehind_10
abbrev rm_X2_rowBy : Room := { frames := 1, cells := 0, slots := 0, locals := 20 }
theorem e_X2_rowBy : yX2_rowBy.cls = RX2 ∧ yX2_rowBy.cls ≠ "java/lang/invoke/MethodHandle" ∧ yX2_rowBy.cls ≠ "java/lang/invoke/VarHandle" ∧ (parseMethodDescriptor yX2_rowBy.desc).map (fun d => d.parameters.length) = some 3 := by decide +kernel
set_option maxHeartbeats 4000000 in
set_option maxRecDepth 100000 in
theorem t_X2_rowBy_47 {l : Launch} {G : k_G} {p : Program} {e : Env} {s : State} {m : MethodId} {args : Array Value} {below : List Frame} {meth : Method} {c : Code} {A : Nat → Prop} {out : Int32} (C0 : k_C G p s m args meth c A cX2_rowBy RX2 wsX2_rowBy 7 (some .int) "rowBy") (k8 : Int32 → Int32 → Int32 → Int32 → Int32 → Option (Int32)) (hk8 : ∀ (x0 : Int32) (x2 : Int32) (x3 : Int32) (x4 : Int32) (x5 : Int32) (H : Heap) (locs : List Loc) (ls : Array Slot), va_P G.1 vwCl [] H → va_D A [] → va_S A s.heap H locs → lv_has ls 7 [(0, .int x0), (2, .int x2), (3, .int x3), (4, .int x4), (5, .int x5)] → k8 x0 x2 x3 x4 x5 = some out → W p l e rm_X2_rowBy s m args below meth c H locs 0 0 (MQ below (k_Qi G A out (fun (_ : Unit) => [])) args s 0 0 A) (F0 m 8 ls [])) : ∀ (x0 : Int32) (x2 : Int32) (x4 : Int32) (x5 : Int32) (s0 : Int32) (s1 : Int32) (H : Heap) (locs : List Loc) (ls : Array Slot), va_P G.1 vwCl [] H → va_D A [] → va_S A s.heap H locs → lv_has ls 7 [(0, .int x0), (2, .int x2), (4, .int x4), (5, .int x5)] → f_X2_rowBy_47 k8 x0 x2 x4 x5 s0 s1 = some out → W p l e rm_X2_rowBy s m args below meth c H locs 0 0 (MQ below (k_Qi G A out (fun (_ : Unit) => [])) args s 0 0 A) (F0 m 47 ls [.int s1, .int s0]) := by
  have hx := C0.1
  have hb := C0.2.1
  have hts := C0.2.2.2.1
  have hown := C0.2.2.2.2.1
  have hK := C0.2.2.2.2.2.2.2.2.1.1
  have hNW := C0.2.2.2.2.2.2.2.2.1.2.1
  have hSF := C0.2.2.2.2.2.2.2.2.1.2.2
  intro x0 x2 x4 x5 s0 s1 H locs ls hP hD hS hl hrun
  rw [f_X2_rowBy_47] at hrun
  refine lv_iadd hx hb dX2_rowBy_47 ?_
  obtain ⟨n1, en, hrun⟩ := lt_inv hrun
  refine k_nmi en ?_
  clear en
  refine lv_istore_n (lv' := [(3, .int n1), (0, .int x0), (2, .int x2), (4, .int x4), (5, .int x5)]) hx hb dX2_rowBy_48 rfl hl (by decide) rfl (fun ls hl => ?_)
  refine lv_iinc (v := x5 + 1) (lv' := [(5, .int (x5 + 1)), (3, .int n1), (0, .int x0), (2, .int x2), (4, .int x4)]) hx hb dX2_rowBy_49 hl (k := 4) rfl rfl (by decide) rfl (fun ls hl => ?_)
  refine lv_goto (tgt := 8) hx hb dX2_rowBy_52 (by decide) ?_
  exact hk8 x0 x2 n1 x4 (x5 + 1) _ _ _ hP hD hS (lv_sub hl [2, 3, 1, 4, 0] rfl) hrun
set_option maxHeartbeats 4000000 in
set_option maxRecDepth 100000 in
theorem t_X2_rowBy_8 {l : Launch} {G : k_G} {p : Program} {e : Env} {s : State} {m : MethodId} {args : Array Value} {below : List Frame} {meth : Method} {c : Code} {A : Nat → Prop} {out : Int32} (C0 : k_C G p s m args meth c A cX2_rowBy RX2 wsX2_rowBy 7 (some .int) "rowBy") : ∀ (n : Nat) (x0 : Int32) (x2 : Int32) (x3 : Int32) (x4 : Int32) (x5 : Int32) (H : Heap) (locs : List Loc) (ls : Array Slot), va_P G.1 vwCl [] H → va_D A [] → va_S A s.heap H locs → lv_has ls 7 [(0, .int x0), (2, .int x2), (3, .int x3), (4, .int x4), (5, .int x5)] → f_X2_rowBy_8 n x0 x2 x3 x4 x5 = some out → W p l e rm_X2_rowBy s m args below meth c H locs 0 0 (MQ below (k_Qi G A out (fun (_ : Unit) => [])) args s 0 0 A) (F0 m 8 ls []) := by
  have hx := C0.1
  have hb := C0.2.1
  have hts := C0.2.2.2.1
  have hown := C0.2.2.2.2.1
  have hK := C0.2.2.2.2.2.2.2.2.1.1
  have hNW := C0.2.2.2.2.2.2.2.2.1.2.1
  have hSF := C0.2.2.2.2.2.2.2.2.1.2.2
  intro n
  induction n with
  | zero =>
    intro x0 x2 x3 x4 x5 H locs ls hP hD hS hl hrun
    rw [f_X2_rowBy_8] at hrun
    cases hrun
  | succ n ih =>
    intro x0 x2 x3 x4 x5 H locs ls hP hD hS hl hrun
    rw [f_X2_rowBy_8] at hrun
    refine lv_iload hx hb dX2_rowBy_8 (lv_at hl 4 rfl) ?_
    refine lv_iload_n hx hb dX2_rowBy_10 rfl (lv_at hl 1 rfl) ?_
    refine lv_icmp_ge (tgt := 55) hx hb dX2_rowBy_11 (by decide) (fun q1 => ?_) (fun q1 => ?_)
    · replace hrun := if_t q1 hrun
      refine lv_iload_n hx hb dX2_rowBy_55 rfl (lv_at hl 2 rfl) ?_
      obtain rfl := Option.some.inj hrun
      exact k_reti C0 hP hD hS () rfl rfl dX2_rowBy_56
    · replace hrun := if_f q1 hrun
      refine lv_iload hx hb dX2_rowBy_14 (lv_at hl 3 rfl) ?_
      obtain ⟨t2, et2, hrun⟩ := bd_inv hrun
      refine k_calli0 C0 (k_runS (rest := []) C0 (c_X2_drawBehind et2) (va_cwS 1 hts gX2_rowBy_X2_drawBehind rfl rfl rfl e_X2_drawBehind.2 ⟨Nat.le_of_ble_eq_true rfl, Nat.le_of_ble_eq_true rfl⟩) hP hD hS [] rfl (by decide) rfl hl.1 rfl (Nat.le_of_ble_eq_true rfl) dX2_rowBy_16 ⟨Nat.le_of_ble_eq_true rfl, Nat.le_of_ble_eq_true rfl⟩) hP hS (fun H locs hP hS => ?_)
      refine lv_istore (lv' := [(4, .int t2), (0, .int x0), (2, .int x2), (3, .int x3), (5, .int x5)]) hx hb dX2_rowBy_19 hl (by decide) rfl (fun ls hl => ?_)
      refine lv_iload_n hx hb dX2_rowBy_21 rfl (lv_at hl 3 rfl) ?_
      refine lv_iconst (v := 1) hx hb dX2_rowBy_22 (by decide) ?_
      refine lv_iand hx hb dX2_rowBy_23 ?_
      obtain ⟨n3, en, hrun⟩ := lt_inv hrun
      refine k_nmi en ?_
      clear en
      refine lv_istore (lv' := [(6, .int n3), (4, .int t2), (0, .int x0), (2, .int x2), (3, .int x3), (5, .int x5)]) hx hb dX2_rowBy_24 hl (by decide) rfl (fun ls hl => ?_)
      refine lv_iload_n hx hb dX2_rowBy_26 rfl (lv_at hl 4 rfl) ?_
      refine lv_iconst (v := 2) hx hb dX2_rowBy_27 (by decide) ?_
      refine lv_imul hx hb dX2_rowBy_28 ?_
      refine lv_iload hx hb dX2_rowBy_29 (lv_at hl 1 rfl) ?_
      refine lv_bipush (v := 100) hx hb dX2_rowBy_31 (by decide) ?_
      refine lv_irem hx hb dX2_rowBy_33 (by decide) ?_
      refine lv_iload_n hx hb dX2_rowBy_34 rfl (lv_at hl 2 rfl) ?_
      refine lv_icmp_ge (tgt := 43) hx hb dX2_rowBy_35 (by decide) (fun q4 => ?_) (fun q4 => ?_)
      · replace hrun := if_t q4 hrun
        refine lv_iconst (v := 1) hx hb dX2_rowBy_43 (by decide) ?_
        refine lv_iload hx hb dX2_rowBy_44 (lv_at hl 0 rfl) ?_
        refine lv_isub hx hb dX2_rowBy_46 ?_
        exact t_X2_rowBy_47 C0 (fun x0 x2 x3 x4 x5 => f_X2_rowBy_8 n x0 x2 x3 x4 x5) ih x0 x2 t2 x5 (x3 * (2 : Int32)) ((1 : Int32) - n3) _ _ _ hP hD hS (lv_sub hl [2, 3, 1, 5] rfl) hrun
      · replace hrun := if_f q4 hrun
        refine lv_iload hx hb dX2_rowBy_38 (lv_at hl 0 rfl) ?_
        refine lv_goto (tgt := 47) hx hb dX2_rowBy_40 (by decide) ?_
        exact t_X2_rowBy_47 C0 (fun x0 x2 x3 x4 x5 => f_X2_rowBy_8 n x0 x2 x3 x4 x5) ih x0 x2 t2 x5 (x3 * (2 : Int32)) n3 _ _ _ hP hD hS (lv_sub hl [2, 3, 1, 5] rfl) hrun
set_option maxHeartbeats 4000000 in
set_option maxRecDepth 100000 in
theorem c_X2_rowBy {l : Launch} {G : k_G} {sz : Nat} {p0 : Int32} {p1 : Int32} {p2 : Int32} {out : Int32} (hrun : f_X2_rowBy p0 p1 p2 = some out) : k_Ci l G yX2_rowBy wsX2_rowBy rm_X2_rowBy [.int p0, .int p1, .int p2] [] sz out (fun (_ : Unit) => []) 0 0 := by
  refine k_of (cc := cX2_rowBy) (nL := 7) (ret := some .int) (own := RX2) (nm := "rowBy") (by decide) rfl rfl rfl rfl ?_
  intro p e s m args below meth c ls hsz C0 hP hD hS hl
  have hl : lv_has ls 7 [(0, .int p0), (1, .int p1), (2, .int p2)] := hl
  generalize hH : s.heap = H at hP
  have hS : va_S (va_A [] sz) s.heap H [] := by rw [← hH]; exact hS
  clear hH
  generalize va_A [] sz = A at C0 hD hS ⊢
  have hx := C0.1
  have hb := C0.2.1
  have hts := C0.2.2.2.1
  have hown := C0.2.2.2.2.1
  have hK := C0.2.2.2.2.2.2.2.2.1.1
  have hNW := C0.2.2.2.2.2.2.2.2.1.2.1
  have hSF := C0.2.2.2.2.2.2.2.2.1.2.2
  rw [f_X2_rowBy] at hrun
  refine lv_iconst (v := 1) hx hb dX2_rowBy_0 (by decide) ?_
  refine lv_istore_n (lv' := [(3, .int (1 : Int32)), (0, .int p0), (1, .int p1), (2, .int p2)]) hx hb dX2_rowBy_1 rfl hl (by decide) rfl (fun ls hl => ?_)
  refine lv_iload_n hx hb dX2_rowBy_2 rfl (lv_at hl 2 rfl) ?_
  refine lv_istore (lv' := [(4, .int p1), (3, .int (1 : Int32)), (0, .int p0), (1, .int p1), (2, .int p2)]) hx hb dX2_rowBy_3 hl (by decide) rfl (fun ls hl => ?_)
  refine lv_iconst (v := 1) hx hb dX2_rowBy_5 (by decide) ?_
  refine lv_istore (lv' := [(5, .int (1 : Int32)), (4, .int p1), (3, .int (1 : Int32)), (0, .int p0), (1, .int p1), (2, .int p2)]) hx hb dX2_rowBy_6 hl (by decide) rfl (fun ls hl => ?_)
  exact t_X2_rowBy_8 C0 kFU p0 p2 (1 : Int32) p1 (1 : Int32) _ _ _ hP hD hS (lv_sub hl [3, 5, 2, 1, 0] rfl) hrun
theorem u_X2_longestBy_1 : (Cond.methodLink RX2 24 Lib.Math.max.name) ∈ wsX2_longestBy := List.mem_of_getElem? (i := 1) (by decide +kernel)
theorem u_X2_longestBy_2 : (Cond.static Lib.Math.max.name) ∈ wsX2_longestBy := List.mem_of_getElem? (i := 2) (by decide +kernel)
theorem u_X2_longestBy_3 : (Cond.initialized "java/lang/Math") ∈ wsX2_longestBy := List.mem_of_getElem? (i := 3) (by decide +kernel)
theorem u_X2_longestBy_4 : (Cond.code Lib.Math.max.name Lib.Math.max.code 2 (some .int)) ∈ wsX2_longestBy := List.mem_of_getElem? (i := 4) (by decide +kernel)
abbrev rm_X2_longestBy : Room := { frames := 1, cells := 0, slots := 0, locals := 21 }
theorem e_X2_longestBy : yX2_longestBy.cls = RX2 ∧ yX2_longestBy.cls ≠ "java/lang/invoke/MethodHandle" ∧ yX2_longestBy.cls ≠ "java/lang/invoke/VarHandle" ∧ (parseMethodDescriptor yX2_longestBy.desc).map (fun d => d.parameters.length) = some 3 := by decide +kernel
set_option maxHeartbeats 4000000 in
set_option maxRecDepth 100000 in
theorem t_X2_longestBy_41 {l : Launch} {G : k_G} {p : Program} {e : Env} {s : State} {m : MethodId} {args : Array Value} {below : List Frame} {meth : Method} {c : Code} {A : Nat → Prop} {out : Int32} (C0 : k_C G p s m args meth c A cX2_longestBy RX2 wsX2_longestBy 7 (some .int) "longestBy") (k11 : Int32 → Int32 → Int32 → Int32 → Int32 → Int32 → Option (Int32)) (hk11 : ∀ (x0 : Int32) (x2 : Int32) (x3 : Int32) (x4 : Int32) (x5 : Int32) (x6 : Int32) (H : Heap) (locs : List Loc) (ls : Array Slot), va_P G.1 vwCl [] H → va_D A [] → va_S A s.heap H locs → lv_has ls 7 [(0, .int x0), (2, .int x2), (3, .int x3), (4, .int x4), (5, .int x5), (6, .int x6)] → k11 x0 x2 x3 x4 x5 x6 = some out → W p l e rm_X2_longestBy s m args below meth c H locs 0 0 (MQ below (k_Qi G A out (fun (_ : Unit) => [])) args s 0 0 A) (F0 m 11 ls [])) : ∀ (x0 : Int32) (x2 : Int32) (x3 : Int32) (x5 : Int32) (x6 : Int32) (s0 : Int32) (H : Heap) (locs : List Loc) (ls : Array Slot), va_P G.1 vwCl [] H → va_D A [] → va_S A s.heap H locs → lv_has ls 7 [(0, .int x0), (2, .int x2), (3, .int x3), (5, .int x5), (6, .int x6)] → f_X2_longestBy_41 k11 x0 x2 x3 x5 x6 s0 = some out → W p l e rm_X2_longestBy s m args below meth c H locs 0 0 (MQ below (k_Qi G A out (fun (_ : Unit) => [])) args s 0 0 A) (F0 m 41 ls [.int s0]) := by
  have hx := C0.1
  have hb := C0.2.1
  have hts := C0.2.2.2.1
  have hown := C0.2.2.2.2.1
  have hK := C0.2.2.2.2.2.2.2.2.1.1
  have hNW := C0.2.2.2.2.2.2.2.2.1.2.1
  have hSF := C0.2.2.2.2.2.2.2.2.1.2.2
  intro x0 x2 x3 x5 x6 s0 H locs ls hP hD hS hl hrun
  rw [f_X2_longestBy_41] at hrun
  refine lv_istore (lv' := [(4, .int s0), (0, .int x0), (2, .int x2), (3, .int x3), (5, .int x5), (6, .int x6)]) hx hb dX2_longestBy_41 hl (by decide) rfl (fun ls hl => ?_)
  refine lv_iload_n hx hb dX2_longestBy_43 rfl (lv_at hl 3 rfl) ?_
  refine lv_iload hx hb dX2_longestBy_44 (lv_at hl 0 rfl) ?_
  refine va_mmax hx hb (C0.2.2.2.2.2.2.1.trans hl.1.symm) hown (hts _ u_X2_longestBy_1) (hts _ u_X2_longestBy_2) (hts _ u_X2_longestBy_3) (hts _ u_X2_longestBy_4) (Nat.le_of_ble_eq_true rfl) (Nat.le_of_ble_eq_true rfl) (Nat.le_of_ble_eq_true rfl) (Nat.le_of_ble_eq_true rfl) dX2_longestBy_46 ?_
  obtain ⟨n1, en, hrun⟩ := lt_inv hrun
  refine k_nmi en ?_
  clear en
  refine lv_istore_n (lv' := [(3, .int n1), (4, .int s0), (0, .int x0), (2, .int x2), (5, .int x5), (6, .int x6)]) hx hb dX2_longestBy_49 rfl hl (by decide) rfl (fun ls hl => ?_)
  refine lv_iinc (v := x6 + 1) (lv' := [(6, .int (x6 + 1)), (3, .int n1), (4, .int s0), (0, .int x0), (2, .int x2), (5, .int x5)]) hx hb dX2_longestBy_50 hl (k := 5) rfl rfl (by decide) rfl (fun ls hl => ?_)
  refine lv_goto (tgt := 11) hx hb dX2_longestBy_53 (by decide) ?_
  exact hk11 x0 x2 n1 s0 x5 (x6 + 1) _ _ _ hP hD hS (lv_sub hl [3, 4, 1, 2, 5, 0] rfl) hrun
set_option maxHeartbeats 4000000 in
set_option maxRecDepth 100000 in
theorem t_X2_longestBy_11 {l : Launch} {G : k_G} {p : Program} {e : Env} {s : State} {m : MethodId} {args : Array Value} {below : List Frame} {meth : Method} {c : Code} {A : Nat → Prop} {out : Int32} (C0 : k_C G p s m args meth c A cX2_longestBy RX2 wsX2_longestBy 7 (some .int) "longestBy") : ∀ (n : Nat) (x0 : Int32) (x2 : Int32) (x3 : Int32) (x4 : Int32) (x5 : Int32) (x6 : Int32) (H : Heap) (locs : List Loc) (ls : Array Slot), va_P G.1 vwCl [] H → va_D A [] → va_S A s.heap H locs → lv_has ls 7 [(0, .int x0), (2, .int x2), (3, .int x3), (4, .int x4), (5, .int x5), (6, .int x6)] → f_X2_longestBy_11 n x0 x2 x3 x4 x5 x6 = some out → W p l e rm_X2_longestBy s m args below meth c H locs 0 0 (MQ below (k_Qi G A out (fun (_ : Unit) => [])) args s 0 0 A) (F0 m 11 ls []) := by
  have hx := C0.1
  have hb := C0.2.1
  have hts := C0.2.2.2.1
  have hown := C0.2.2.2.2.1
  have hK := C0.2.2.2.2.2.2.2.2.1.1
  have hNW := C0.2.2.2.2.2.2.2.2.1.2.1
  have hSF := C0.2.2.2.2.2.2.2.2.1.2.2
  intro n
  induction n with
  | zero =>
    intro x0 x2 x3 x4 x5 x6 H locs ls hP hD hS hl hrun
    rw [f_X2_longestBy_11] at hrun
    cases hrun
  | succ n ih =>
    intro x0 x2 x3 x4 x5 x6 H locs ls hP hD hS hl hrun
    rw [f_X2_longestBy_11] at hrun
    refine lv_iload hx hb dX2_longestBy_11 (lv_at hl 5 rfl) ?_
    refine lv_iload_n hx hb dX2_longestBy_13 rfl (lv_at hl 1 rfl) ?_
    refine lv_icmp_ge (tgt := 56) hx hb dX2_longestBy_14 (by decide) (fun q1 => ?_) (fun q1 => ?_)
    · replace hrun := if_t q1 hrun
      refine lv_iload_n hx hb dX2_longestBy_56 rfl (lv_at hl 2 rfl) ?_
      obtain rfl := Option.some.inj hrun
      exact k_reti C0 hP hD hS () rfl rfl dX2_longestBy_57
    · replace hrun := if_f q1 hrun
      refine lv_iload hx hb dX2_longestBy_17 (lv_at hl 4 rfl) ?_
      obtain ⟨t2, et2, hrun⟩ := bd_inv hrun
      refine k_calli0 C0 (k_runS (rest := []) C0 (c_X2_drawBehind et2) (va_cwS 1 hts gX2_longestBy_X2_drawBehind rfl rfl rfl e_X2_drawBehind.2 ⟨Nat.le_of_ble_eq_true rfl, Nat.le_of_ble_eq_true rfl⟩) hP hD hS [] rfl (by decide) rfl hl.1 rfl (Nat.le_of_ble_eq_true rfl) dX2_longestBy_19 ⟨Nat.le_of_ble_eq_true rfl, Nat.le_of_ble_eq_true rfl⟩) hP hS (fun H locs hP hS => ?_)
      refine lv_istore (lv' := [(5, .int t2), (0, .int x0), (2, .int x2), (3, .int x3), (4, .int x4), (6, .int x6)]) hx hb dX2_longestBy_22 hl (by decide) rfl (fun ls hl => ?_)
      refine lv_iload hx hb dX2_longestBy_24 (lv_at hl 0 rfl) ?_
      refine lv_bipush (v := 100) hx hb dX2_longestBy_26 (by decide) ?_
      refine lv_irem hx hb dX2_longestBy_28 (by decide) ?_
      refine lv_iload_n hx hb dX2_longestBy_29 rfl (lv_at hl 1 rfl) ?_
      refine lv_icmp_ge (tgt := 40) hx hb dX2_longestBy_30 (by decide) (fun q3 => ?_) (fun q3 => ?_)
      · replace hrun := if_t q3 hrun
        refine lv_iconst (v := 1) hx hb dX2_longestBy_40 (by decide) ?_
        exact t_X2_longestBy_41 C0 (fun x0 x2 x3 x4 x5 x6 => f_X2_longestBy_11 n x0 x2 x3 x4 x5 x6) ih x0 x2 x3 t2 x6 (1 : Int32) _ _ _ hP hD hS (lv_sub hl [1, 2, 3, 0, 5] rfl) hrun
      · replace hrun := if_f q3 hrun
        refine lv_iload hx hb dX2_longestBy_33 (lv_at hl 4 rfl) ?_
        refine lv_iconst (v := 1) hx hb dX2_longestBy_35 (by decide) ?_
        refine lv_iadd hx hb dX2_longestBy_36 ?_
        refine lv_goto (tgt := 41) hx hb dX2_longestBy_37 (by decide) ?_
        exact t_X2_longestBy_41 C0 (fun x0 x2 x3 x4 x5 x6 => f_X2_longestBy_11 n x0 x2 x3 x4 x5 x6) ih x0 x2 x3 t2 x6 (x4 + (1 : Int32)) _ _ _ hP hD hS (lv_sub hl [1, 2, 3, 0, 5] rfl) hrun
set_option maxHeartbeats 4000000 in
set_option maxRecDepth 100000 in
theorem c_X2_longestBy {l : Launch} {G : k_G} {sz : Nat} {p0 : Int32} {p1 : Int32} {p2 : Int32} {out : Int32} (hrun : f_X2_longestBy p0 p1 p2 = some out) : k_Ci l G yX2_longestBy wsX2_longestBy rm_X2_longestBy [.int p0, .int p1, .int p2] [] sz out (fun (_ : Unit) => []) 0 0 := by
  refine k_of (cc := cX2_longestBy) (nL := 7) (ret := some .int) (own := RX2) (nm := "longestBy") (by decide) rfl rfl rfl rfl ?_
  intro p e s m args below meth c ls hsz C0 hP hD hS hl
  have hl : lv_has ls 7 [(0, .int p0), (1, .int p1), (2, .int p2)] := hl
  generalize hH : s.heap = H at hP
  have hS : va_S (va_A [] sz) s.heap H [] := by rw [← hH]; exact hS
  clear hH
  generalize va_A [] sz = A at C0 hD hS ⊢
  have hx := C0.1
  have hb := C0.2.1
  have hts := C0.2.2.2.1
  have hown := C0.2.2.2.2.1
  have hK := C0.2.2.2.2.2.2.2.2.1.1
  have hNW := C0.2.2.2.2.2.2.2.2.1.2.1
  have hSF := C0.2.2.2.2.2.2.2.2.1.2.2
  rw [f_X2_longestBy] at hrun
  refine lv_iconst (v := 1) hx hb dX2_longestBy_0 (by decide) ?_
  refine lv_istore_n (lv' := [(3, .int (1 : Int32)), (0, .int p0), (1, .int p1), (2, .int p2)]) hx hb dX2_longestBy_1 rfl hl (by decide) rfl (fun ls hl => ?_)
  refine lv_iconst (v := 1) hx hb dX2_longestBy_2 (by decide) ?_
  refine lv_istore (lv' := [(4, .int (1 : Int32)), (3, .int (1 : Int32)), (0, .int p0), (1, .int p1), (2, .int p2)]) hx hb dX2_longestBy_3 hl (by decide) rfl (fun ls hl => ?_)
  refine lv_iload_n hx hb dX2_longestBy_5 rfl (lv_at hl 3 rfl) ?_
  refine lv_istore (lv' := [(5, .int p1), (4, .int (1 : Int32)), (3, .int (1 : Int32)), (0, .int p0), (1, .int p1), (2, .int p2)]) hx hb dX2_longestBy_6 hl (by decide) rfl (fun ls hl => ?_)
  refine lv_iconst (v := 1) hx hb dX2_longestBy_8 (by decide) ?_
  refine lv_istore (lv' := [(6, .int (1 : Int32)), (5, .int p1), (4, .int (1 : Int32)), (3, .int (1 : Int32)), (0, .int p0), (1, .int p1), (2, .int p2)]) hx hb dX2_longestBy_9 hl (by decide) rfl (fun ls hl => ?_)
  exact t_X2_longestBy_11 C0 kFU p0 p2 (1 : Int32) (1 : Int32) p1 (1 : Int32) _ _ _ hP hD hS (lv_sub hl [4, 6, 3, 2, 1, 0] rfl) hrun
