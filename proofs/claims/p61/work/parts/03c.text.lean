def f_J0_coder_7d493 (c_t : Nat) : Option (Int32) :=
  if (1 : Int32) = 0 then
    some ((1 : Int32))
  else
    (gd (c_t < 8) <|
     some ((0 : Int32)))
def f_J0_length_8abf5 (c_t : Nat) : Option (Int32) :=
  gd (c_t < 8) <|
  gd (c_t < 8) <|
  gd (c_t < 8) <|
  bd (f_J0_coder_7d493 c_t) fun t4 =>
  some ((Int32.ofNat (k_len.getD c_t 0)) >>> (t4 &&& 31))
def f_J0_isLatin1_aae02 (c_t : Nat) : Option (Int32) :=
  if (1 : Int32) = 0 then
    some ((0 : Int32))
  else
    (gd (c_t < 8) <|
     if (0 : Int32) = 0 then
       some ((1 : Int32))
     else
       some ((0 : Int32)))
def f_J3_checkIndex_8e157_9 (x0 : Int32) (x1 : Int32) : Option (Int32) :=
  none
def f_J3_checkIndex_8e157 (p0 : Int32) (p1 : Int32) : Option (Int32) :=
  if p0 < 0 then
    f_J3_checkIndex_8e157_9 p0 p1
  else
    (if p0 < p1 then
       some (p0)
     else
       f_J3_checkIndex_8e157_9 p0 p1)
def f_J0_checkIndex_df160 (p0 : Int32) (p1 : Int32) : Option (Unit) :=
  bd (f_J3_checkIndex_8e157 p0 p1) fun t1 =>
  some ()
def f_J1_charAt_3b067 (c_a0 : Nat) (p1 : Int32) : Option (Int32) :=
  gd (c_a0 < 8) <|
  bd (f_J0_checkIndex_df160 p1 (Int32.ofNat (k_len.getD c_a0 0))) fun t2 =>
  gd (c_a0 < 8 ∧ inR p1 (k_len.getD c_a0 0)) <|
  some (((((k_byt.getD c_a0 []).getD p1.toNatClampNeg 0) &&& (255 : Int32)).toUInt32 % 65536).toInt32)
def f_J0_charAt_5068e (c_t : Nat) (p1 : Int32) : Option (Int32) :=
  gd (c_t < 8) <|
  bd (f_J0_isLatin1_aae02 c_t) fun t2 =>
  if t2 = 0 then
    (none)
  else
    (gd (c_t < 8) <|
     bd (f_J1_charAt_3b067 c_t p1) fun t5 =>
     gd ((t5.toUInt32 % 65536).toInt32 = t5) <|
     some (t5))
def f_X7_codeOf_4 : Nat → Nat → Int64 → Int32 → Option (Int64)
  | 0, _, _, _ => none
  | n + 1, c_a0, x1, x3 =>
    gd (c_a0 < 8) <|
    bd (f_J0_length_8abf5 c_a0) fun t2 =>
    if t2 ≤ x3 then
      some (x1)
    else
      (gd (c_a0 < 8) <|
       bd (f_J0_charAt_5068e c_a0 x3) fun t5 =>
       lt ((x1 * (32 : Int64)) + (((t5 - (97 : Int32)) + (1 : Int32)).toInt64)) fun n6 =>
       f_X7_codeOf_4 n c_a0 n6 (x3 + 1))
def f_X7_codeOf (c_a0 : Nat) : Option (Int64) :=
  f_X7_codeOf_4 kFU c_a0 (0 : Int64) (0 : Int32)
theorem u_J0_coder_7d493_1 : (Cond.fieldLink RJ0 38 "java/lang/String" "COMPACT_STRINGS" "Z") ∈ wsJ0_coder_7d493 := List.mem_of_getElem? (i := 1) (by decide +kernel)
theorem u_J0_coder_7d493_2 : (Cond.fieldLink RJ0 15 "java/lang/String" "coder" "B") ∈ wsJ0_coder_7d493 := List.mem_of_getElem? (i := 2) (by decide +kernel)
abbrev rm_J0_coder_7d493 : Room := { frames := 0, cells := 0, slots := 0, locals := 0 }
theorem e_J0_coder_7d493 : yJ0_coder_7d493.cls = RJ0 ∧ yJ0_coder_7d493.cls ≠ "java/lang/invoke/MethodHandle" ∧ yJ0_coder_7d493.cls ≠ "java/lang/invoke/VarHandle" ∧ (parseMethodDescriptor yJ0_coder_7d493.desc).map (fun d => d.parameters.length) = some 0 := by decide +kernel
set_option maxHeartbeats 4000000 in
set_option maxRecDepth 100000 in
theorem c_J0_coder_7d493 {l : Launch} {G : k_G} {c_t : Nat} {sz : Nat} {out : Int32} (hrun : f_J0_coder_7d493 c_t = some out) : k_Ci l G yJ0_coder_7d493 wsJ0_coder_7d493 rm_J0_coder_7d493 [.ref (k_tK G c_t)] [] sz out (fun (_ : Unit) => []) 0 0 := by
  refine k_of (cc := cJ0_coder_7d493) (nL := 1) (ret := some .byte) (own := RJ0) (nm := "coder") (by decide) rfl rfl rfl rfl ?_
  intro p e s m args below meth c ls hsz C0 hP hD hS hl
  have hl : lv_has ls 1 [(0, .ref (k_tK G c_t))] := hl
  generalize hH : s.heap = H at hP
  have hS : va_S (va_A [] sz) s.heap H [] := by rw [← hH]; exact hS
  clear hH
  generalize va_A [] sz = A at C0 hD hS ⊢
  have hx := C0.1
  have hb := C0.2.1
  have hts := C0.2.2.2.1
  have hown := C0.2.2.2.2.1
  have hK := C0.2.2.2.2.2.2.2.2.1.1
  have hNW := C0.2.2.2.2.2.2.2.2.1.2.1
  have hSF := C0.2.2.2.2.2.2.2.2.1.2.2
  rw [f_J0_coder_7d493] at hrun
  refine va_gets hx hb hSF.2.2.1 hS hown (hts _ u_J0_coder_7d493_1) (fun _ h9 => h9) dJ0_coder_7d493_0 ?_
  refine lv_if_eq (tgt := 13) hx hb dJ0_coder_7d493_3 (by decide) (fun q1 => ?_) (fun q1 => ?_)
  · replace hrun := if_t q1 hrun
    refine lv_iconst (v := 1) hx hb dJ0_coder_7d493_13 (by decide) ?_
    obtain rfl := Option.some.inj hrun
    exact k_retz C0 hP hD hS () rfl rfl rfl dJ0_coder_7d493_14
  · replace hrun := if_f q1 hrun
    refine lv_aload_n hx hb dJ0_coder_7d493_6 rfl (lv_at hl 0 rfl) ?_
    obtain ⟨gz2, hrun⟩ := gd_inv hrun
    refine vk_getf hx hb (hSF.2.2.2.2.1.1 _ gz2).2.1 hS hown (hts _ u_J0_coder_7d493_2) (fun _ h9 => h9) dJ0_coder_7d493_7 ?_
    refine lv_goto (tgt := 14) hx hb dJ0_coder_7d493_10 (by decide) ?_
    obtain rfl := Option.some.inj hrun
    exact k_retz C0 hP hD hS () rfl rfl rfl dJ0_coder_7d493_14
theorem u_J0_length_8abf5_1 : (Cond.fieldLink RJ0 9 "java/lang/String" "value" "[B") ∈ wsJ0_length_8abf5 := List.mem_of_getElem? (i := 1) (by decide +kernel)
abbrev rm_J0_length_8abf5 : Room := { frames := 1, cells := 0, slots := 0, locals := 20 }
theorem e_J0_length_8abf5 : yJ0_length_8abf5.cls = RJ0 ∧ yJ0_length_8abf5.cls ≠ "java/lang/invoke/MethodHandle" ∧ yJ0_length_8abf5.cls ≠ "java/lang/invoke/VarHandle" ∧ (parseMethodDescriptor yJ0_length_8abf5.desc).map (fun d => d.parameters.length) = some 0 := by decide +kernel
set_option maxHeartbeats 4000000 in
set_option maxRecDepth 100000 in
theorem c_J0_length_8abf5 {l : Launch} {G : k_G} {c_t : Nat} {sz : Nat} {out : Int32} (hrun : f_J0_length_8abf5 c_t = some out) : k_Ci l G yJ0_length_8abf5 wsJ0_length_8abf5 rm_J0_length_8abf5 [.ref (k_tK G c_t)] [] sz out (fun (_ : Unit) => []) 0 0 := by
  refine k_of (cc := cJ0_length_8abf5) (nL := 1) (ret := some .int) (own := RJ0) (nm := "length") (by decide) rfl rfl rfl rfl ?_
  intro p e s m args below meth c ls hsz C0 hP hD hS hl
  have hl : lv_has ls 1 [(0, .ref (k_tK G c_t))] := hl
  generalize hH : s.heap = H at hP
  have hS : va_S (va_A [] sz) s.heap H [] := by rw [← hH]; exact hS
  clear hH
  generalize va_A [] sz = A at C0 hD hS ⊢
  have hx := C0.1
  have hb := C0.2.1
  have hts := C0.2.2.2.1
  have hown := C0.2.2.2.2.1
  have hK := C0.2.2.2.2.2.2.2.2.1.1
  have hNW := C0.2.2.2.2.2.2.2.2.1.2.1
  have hSF := C0.2.2.2.2.2.2.2.2.1.2.2
  rw [f_J0_length_8abf5] at hrun
  refine lv_aload_n hx hb dJ0_length_8abf5_0 rfl (lv_at hl 0 rfl) ?_
  obtain ⟨gz1, hrun⟩ := gd_inv hrun
  refine vk_getf hx hb (hSF.2.2.2.2.1.1 _ gz1).2.2.1 hS hown (hts _ u_J0_length_8abf5_1) (fun _ h9 => h9) dJ0_length_8abf5_1 ?_
  obtain ⟨gz2, hrun⟩ := gd_inv hrun
  refine va_tlen (v := Int32.ofNat (k_len.getD c_t 0)) hx hb (hSF.2.2.2.2.1.1 _ gz2).2.2.2 hS rfl dJ0_length_8abf5_4 ?_
  refine lv_aload_n hx hb dJ0_length_8abf5_5 rfl (lv_at hl 0 rfl) ?_
  obtain ⟨gz3, hrun⟩ := gd_inv hrun
  obtain ⟨t4, et4, hrun⟩ := bd_inv hrun
  refine k_calli0 C0 (k_runVR (rest := [.int (Int32.ofNat (k_len.getD c_t 0))]) C0 (c_J0_coder_7d493 et4) (cwV 0 hts gJ0_length_8abf5_J0_coder_7d493 rfl rfl rfl e_J0_coder_7d493 ⟨Nat.le_of_ble_eq_true rfl, Nat.le_of_ble_eq_true rfl⟩) hP hD hS [] rfl (by decide) (k_recv hSF.2.2.2.2.1 gz3 hS) rfl hl.1 rfl (Nat.le_of_ble_eq_true rfl) dJ0_length_8abf5_6 ⟨Nat.le_of_ble_eq_true rfl, Nat.le_of_ble_eq_true rfl⟩) hP hS (fun H locs hP hS => ?_)
  refine lv_ishr hx hb dJ0_length_8abf5_9 ?_
  obtain rfl := Option.some.inj hrun
  exact k_reti C0 hP hD hS () rfl rfl dJ0_length_8abf5_10
theorem u_J0_isLatin1_aae02_1 : (Cond.fieldLink RJ0 38 "java/lang/String" "COMPACT_STRINGS" "Z") ∈ wsJ0_isLatin1_aae02 := List.mem_of_getElem? (i := 1) (by decide +kernel)
theorem u_J0_isLatin1_aae02_2 : (Cond.fieldLink RJ0 15 "java/lang/String" "coder" "B") ∈ wsJ0_isLatin1_aae02 := List.mem_of_getElem? (i := 2) (by decide +kernel)
abbrev rm_J0_isLatin1_aae02 : Room := { frames := 0, cells := 0, slots := 0, locals := 0 }
theorem e_J0_isLatin1_aae02 : yJ0_isLatin1_aae02.cls = RJ0 ∧ yJ0_isLatin1_aae02.cls ≠ "java/lang/invoke/MethodHandle" ∧ yJ0_isLatin1_aae02.cls ≠ "java/lang/invoke/VarHandle" ∧ (parseMethodDescriptor yJ0_isLatin1_aae02.desc).map (fun d => d.parameters.length) = some 0 := by decide +kernel
set_option maxHeartbeats 4000000 in
set_option maxRecDepth 100000 in
theorem c_J0_isLatin1_aae02 {l : Launch} {G : k_G} {c_t : Nat} {sz : Nat} {out : Int32} (hrun : f_J0_isLatin1_aae02 c_t = some out) : k_Ci l G yJ0_isLatin1_aae02 wsJ0_isLatin1_aae02 rm_J0_isLatin1_aae02 [.ref (k_tK G c_t)] [] sz out (fun (_ : Unit) => []) 0 0 := by
  refine k_of (cc := cJ0_isLatin1_aae02) (nL := 1) (ret := some .boolean) (own := RJ0) (nm := "isLatin1") (by decide) rfl rfl rfl rfl ?_
  intro p e s m args below meth c ls hsz C0 hP hD hS hl
  have hl : lv_has ls 1 [(0, .ref (k_tK G c_t))] := hl
  generalize hH : s.heap = H at hP
  have hS : va_S (va_A [] sz) s.heap H [] := by rw [← hH]; exact hS
  clear hH
  generalize va_A [] sz = A at C0 hD hS ⊢
  have hx := C0.1
  have hb := C0.2.1
  have hts := C0.2.2.2.1
  have hown := C0.2.2.2.2.1
  have hK := C0.2.2.2.2.2.2.2.2.1.1
  have hNW := C0.2.2.2.2.2.2.2.2.1.2.1
  have hSF := C0.2.2.2.2.2.2.2.2.1.2.2
  rw [f_J0_isLatin1_aae02] at hrun
  refine va_gets hx hb hSF.2.2.1 hS hown (hts _ u_J0_isLatin1_aae02_1) (fun _ h9 => h9) dJ0_isLatin1_aae02_0 ?_
  refine lv_if_eq (tgt := 17) hx hb dJ0_isLatin1_aae02_3 (by decide) (fun q1 => ?_) (fun q1 => ?_)
  · replace hrun := if_t q1 hrun
    refine lv_iconst (v := 0) hx hb dJ0_isLatin1_aae02_17 (by decide) ?_
    obtain rfl := Option.some.inj hrun
    exact k_retz C0 hP hD hS () rfl rfl rfl dJ0_isLatin1_aae02_18
  · replace hrun := if_f q1 hrun
    refine lv_aload_n hx hb dJ0_isLatin1_aae02_6 rfl (lv_at hl 0 rfl) ?_
    obtain ⟨gz2, hrun⟩ := gd_inv hrun
    refine vk_getf hx hb (hSF.2.2.2.2.1.1 _ gz2).2.1 hS hown (hts _ u_J0_isLatin1_aae02_2) (fun _ h9 => h9) dJ0_isLatin1_aae02_7 ?_
    refine lv_if_ne (tgt := 17) hx hb dJ0_isLatin1_aae02_10 (by decide) (fun q3 => ?_) (fun q3 => ?_)
    · replace hrun := if_f q3 hrun
      refine lv_iconst (v := 0) hx hb dJ0_isLatin1_aae02_17 (by decide) ?_
      obtain rfl := Option.some.inj hrun
      exact k_retz C0 hP hD hS () rfl rfl rfl dJ0_isLatin1_aae02_18
    · replace hrun := if_t q3 hrun
      refine lv_iconst (v := 1) hx hb dJ0_isLatin1_aae02_13 (by decide) ?_
      refine lv_goto (tgt := 18) hx hb dJ0_isLatin1_aae02_14 (by decide) ?_
      obtain rfl := Option.some.inj hrun
      exact k_retz C0 hP hD hS () rfl rfl rfl dJ0_isLatin1_aae02_18
abbrev rm_J3_checkIndex_8e157 : Room := { frames := 0, cells := 0, slots := 0, locals := 0 }
theorem e_J3_checkIndex_8e157 : yJ3_checkIndex_8e157.cls = RJ3 ∧ yJ3_checkIndex_8e157.cls ≠ "java/lang/invoke/MethodHandle" ∧ yJ3_checkIndex_8e157.cls ≠ "java/lang/invoke/VarHandle" ∧ (parseMethodDescriptor yJ3_checkIndex_8e157.desc).map (fun d => d.parameters.length) = some 3 := by decide +kernel
set_option maxHeartbeats 4000000 in
set_option maxRecDepth 100000 in
theorem t_J3_checkIndex_8e157_9 {l : Launch} {G : k_G} {p : Program} {e : Env} {s : State} {m : MethodId} {args : Array Value} {below : List Frame} {meth : Method} {c : Code} {A : Nat → Prop} {b_a2 : Value} {out : Int32} (C0 : k_C G p s m args meth c A cJ3_checkIndex_8e157 RJ3 wsJ3_checkIndex_8e157 3 (some .int) "checkIndex") : ∀ (x0 : Int32) (x1 : Int32) (H : Heap) (locs : List Loc) (ls : Array Slot), va_P G.1 vwCl [] H → va_D A [] → va_S A s.heap H locs → lv_has ls 3 [(0, .int x0), (1, .int x1), (2, b_a2)] → f_J3_checkIndex_8e157_9 x0 x1 = some out → W p l e rm_J3_checkIndex_8e157 s m args below meth c H locs 0 0 (MQ below (k_Qi G A out (fun (_ : Unit) => [])) args s 0 0 A) (F0 m 9 ls []) := by
  have hx := C0.1
  have hb := C0.2.1
  have hts := C0.2.2.2.1
  have hown := C0.2.2.2.2.1
  have hK := C0.2.2.2.2.2.2.2.2.1.1
  have hNW := C0.2.2.2.2.2.2.2.2.1.2.1
  have hSF := C0.2.2.2.2.2.2.2.2.1.2.2
  intro x0 x1 H locs ls hP hD hS hl hrun
  rw [f_J3_checkIndex_8e157_9] at hrun
  cases hrun
set_option maxHeartbeats 4000000 in
set_option maxRecDepth 100000 in
theorem c_J3_checkIndex_8e157 {l : Launch} {G : k_G} {b_a2 : Value} {sz : Nat} {p0 : Int32} {p1 : Int32} {out : Int32} (hbv : b_a2.category = 1) (hrun : f_J3_checkIndex_8e157 p0 p1 = some out) : k_Ci l G yJ3_checkIndex_8e157 wsJ3_checkIndex_8e157 rm_J3_checkIndex_8e157 [.int p0, .int p1, b_a2] [] sz out (fun (_ : Unit) => []) 0 0 := by
  refine k_of (cc := cJ3_checkIndex_8e157) (nL := 3) (ret := some .int) (own := RJ3) (nm := "checkIndex") (by decide) rfl rfl rfl (by simp [lg_sl, Value.category] at hbv ⊢; simp [hbv]) ?_
  intro p e s m args below meth c ls hsz C0 hP hD hS hl
  have hl : lv_has ls 3 [(0, .int p0), (1, .int p1), (2, b_a2)] := hl
  generalize hH : s.heap = H at hP
  have hS : va_S (va_A [] sz) s.heap H [] := by rw [← hH]; exact hS
  clear hH
  generalize va_A [] sz = A at C0 hD hS ⊢
  have hx := C0.1
  have hb := C0.2.1
  have hts := C0.2.2.2.1
  have hown := C0.2.2.2.2.1
  have hK := C0.2.2.2.2.2.2.2.2.1.1
  have hNW := C0.2.2.2.2.2.2.2.2.1.2.1
  have hSF := C0.2.2.2.2.2.2.2.2.1.2.2
  rw [f_J3_checkIndex_8e157] at hrun
  refine lv_iload_n hx hb dJ3_checkIndex_8e157_0 rfl (lv_at hl 0 rfl) ?_
  refine lv_if_lt (tgt := 9) hx hb dJ3_checkIndex_8e157_1 (by decide) (fun q1 => ?_) (fun q1 => ?_)
  · replace hrun := if_t q1 hrun
    exact t_J3_checkIndex_8e157_9 C0 p0 p1 _ _ _ hP hD hS hl hrun
  · replace hrun := if_f q1 hrun
    refine lv_iload_n hx hb dJ3_checkIndex_8e157_4 rfl (lv_at hl 0 rfl) ?_
    refine lv_iload_n hx hb dJ3_checkIndex_8e157_5 rfl (lv_at hl 1 rfl) ?_
    refine lv_icmp_lt (tgt := 16) hx hb dJ3_checkIndex_8e157_6 (by decide) (fun q2 => ?_) (fun q2 => ?_)
    · replace hrun := if_t q2 hrun
      refine lv_iload_n hx hb dJ3_checkIndex_8e157_16 rfl (lv_at hl 0 rfl) ?_
      obtain rfl := Option.some.inj hrun
      exact k_reti C0 hP hD hS () rfl rfl dJ3_checkIndex_8e157_17
    · replace hrun := if_f q2 hrun
      exact t_J3_checkIndex_8e157_9 C0 p0 p1 _ _ _ hP hD hS hl hrun
theorem u_J0_checkIndex_df160_1 : (Cond.fieldLink RJ0 1053 "jdk/internal/util/Preconditions" "SIOOBE_FORMATTER" "Ljava/util/function/BiFunction;") ∈ wsJ0_checkIndex_df160 := List.mem_of_getElem? (i := 1) (by decide +kernel)
abbrev rm_J0_checkIndex_df160 : Room := { frames := 1, cells := 0, slots := 0, locals := 22 }
theorem e_J0_checkIndex_df160 : yJ0_checkIndex_df160.cls = RJ0 ∧ yJ0_checkIndex_df160.cls ≠ "java/lang/invoke/MethodHandle" ∧ yJ0_checkIndex_df160.cls ≠ "java/lang/invoke/VarHandle" ∧ (parseMethodDescriptor yJ0_checkIndex_df160.desc).map (fun d => d.parameters.length) = some 2 := by decide +kernel
set_option maxHeartbeats 4000000 in
set_option maxRecDepth 100000 in
theorem c_J0_checkIndex_df160 {l : Launch} {G : k_G} {sz : Nat} {p0 : Int32} {p1 : Int32} {out : Unit} (hrun : f_J0_checkIndex_df160 p0 p1 = some out) : k_Cv l G yJ0_checkIndex_df160 wsJ0_checkIndex_df160 rm_J0_checkIndex_df160 [.int p0, .int p1] [] sz (fun (_ : Unit) => []) 0 0 := by
  refine k_of (cc := cJ0_checkIndex_df160) (nL := 2) (ret := none) (own := RJ0) (nm := "checkIndex") (by decide) rfl rfl rfl rfl ?_
  intro p e s m args below meth c ls hsz C0 hP hD hS hl
  have hl : lv_has ls 2 [(0, .int p0), (1, .int p1)] := hl
  generalize hH : s.heap = H at hP
  have hS : va_S (va_A [] sz) s.heap H [] := by rw [← hH]; exact hS
  clear hH
  generalize va_A [] sz = A at C0 hD hS ⊢
  have hx := C0.1
  have hb := C0.2.1
  have hts := C0.2.2.2.1
  have hown := C0.2.2.2.2.1
  have hK := C0.2.2.2.2.2.2.2.2.1.1
  have hNW := C0.2.2.2.2.2.2.2.2.1.2.1
  have hSF := C0.2.2.2.2.2.2.2.2.1.2.2
  rw [f_J0_checkIndex_df160] at hrun
  refine lv_iload_n hx hb dJ0_checkIndex_df160_0 rfl (lv_at hl 0 rfl) ?_
  refine lv_iload_n hx hb dJ0_checkIndex_df160_1 rfl (lv_at hl 1 rfl) ?_
  obtain ⟨bv, hbv, hZ⟩ := k_zq hSF.2.2.2.1
  refine va_gets hx hb hZ hS hown (hts _ u_J0_checkIndex_df160_1) (fun _ h9 => h9) dJ0_checkIndex_df160_2 ?_
  obtain ⟨t1, et1, hrun⟩ := bd_inv hrun
  refine k_calli0 C0 (k_runS (rest := []) C0 (c_J3_checkIndex_8e157 hbv et1) (va_cwS 3 hts gJ0_checkIndex_df160_J3_checkIndex_8e157 rfl rfl rfl e_J3_checkIndex_8e157.2 ⟨Nat.le_of_ble_eq_true rfl, Nat.le_of_ble_eq_true rfl⟩) hP hD hS [] rfl (by decide) rfl hl.1 rfl (Nat.le_of_ble_eq_true rfl) dJ0_checkIndex_df160_5 ⟨Nat.le_of_ble_eq_true rfl, Nat.le_of_ble_eq_true rfl⟩) hP hS (fun H locs hP hS => ?_)
  refine lv_pop hx hb dJ0_checkIndex_df160_8 rfl ?_
  obtain rfl := Option.some.inj hrun
  exact k_retv C0 hP hD hS () rfl dJ0_checkIndex_df160_9
abbrev rm_J1_charAt_3b067 : Room := { frames := 2, cells := 0, slots := 0, locals := 43 }
theorem e_J1_charAt_3b067 : yJ1_charAt_3b067.cls = RJ1 ∧ yJ1_charAt_3b067.cls ≠ "java/lang/invoke/MethodHandle" ∧ yJ1_charAt_3b067.cls ≠ "java/lang/invoke/VarHandle" ∧ (parseMethodDescriptor yJ1_charAt_3b067.desc).map (fun d => d.parameters.length) = some 2 := by decide +kernel
set_option maxHeartbeats 4000000 in
set_option maxRecDepth 100000 in
theorem c_J1_charAt_3b067 {l : Launch} {G : k_G} {c_a0 : Nat} {sz : Nat} {p1 : Int32} {out : Int32} (hrun : f_J1_charAt_3b067 c_a0 p1 = some out) : k_Ci l G yJ1_charAt_3b067 wsJ1_charAt_3b067 rm_J1_charAt_3b067 [.ref (k_tV G c_a0), .int p1] [] sz out (fun (_ : Unit) => []) 0 0 := by
  refine k_of (cc := cJ1_charAt_3b067) (nL := 2) (ret := some .char) (own := RJ1) (nm := "charAt") (by decide) rfl rfl rfl rfl ?_
  intro p e s m args below meth c ls hsz C0 hP hD hS hl
  have hl : lv_has ls 2 [(0, .ref (k_tV G c_a0)), (1, .int p1)] := hl
  generalize hH : s.heap = H at hP
  have hS : va_S (va_A [] sz) s.heap H [] := by rw [← hH]; exact hS
  clear hH
  generalize va_A [] sz = A at C0 hD hS ⊢
  have hx := C0.1
  have hb := C0.2.1
  have hts := C0.2.2.2.1
  have hown := C0.2.2.2.2.1
  have hK := C0.2.2.2.2.2.2.2.2.1.1
  have hNW := C0.2.2.2.2.2.2.2.2.1.2.1
  have hSF := C0.2.2.2.2.2.2.2.2.1.2.2
  rw [f_J1_charAt_3b067] at hrun
  refine lv_iload_n hx hb dJ1_charAt_3b067_0 rfl (lv_at hl 1 rfl) ?_
  refine lv_aload_n hx hb dJ1_charAt_3b067_1 rfl (lv_at hl 0 rfl) ?_
  obtain ⟨gz1, hrun⟩ := gd_inv hrun
  refine va_tlen (v := Int32.ofNat (k_len.getD c_a0 0)) hx hb (hSF.2.2.2.2.1.1 _ gz1).2.2.2 hS rfl dJ1_charAt_3b067_2 ?_
  obtain ⟨t2, et2, hrun⟩ := bd_inv hrun
  refine k_callv0 C0 (k_runS (rest := []) C0 (c_J0_checkIndex_df160 et2) (va_cwS 2 hts gJ1_charAt_3b067_J0_checkIndex_df160 rfl rfl rfl e_J0_checkIndex_df160.2 ⟨Nat.le_of_ble_eq_true rfl, Nat.le_of_ble_eq_true rfl⟩) hP hD hS [] rfl (by decide) rfl hl.1 rfl (Nat.le_of_ble_eq_true rfl) dJ1_charAt_3b067_3 ⟨Nat.le_of_ble_eq_true rfl, Nat.le_of_ble_eq_true rfl⟩) hP hS (fun H locs hP hS => ?_)
  refine lv_aload_n hx hb dJ1_charAt_3b067_6 rfl (lv_at hl 0 rfl) ?_
  refine lv_iload_n hx hb dJ1_charAt_3b067_7 rfl (lv_at hl 1 rfl) ?_
  obtain ⟨gz3, hrun⟩ := gd_inv hrun
  refine va_tb (v := .int ((k_byt.getD c_a0 []).getD p1.toNatClampNeg 0)) hx hb (hSF.2.2.2.2.1.1 _ gz3.1).2.2.2 hS gz3.2 rfl dJ1_charAt_3b067_8 ?_
  refine lv_sipush (v := 255) hx hb dJ1_charAt_3b067_9 (by decide) ?_
  refine lv_iand hx hb dJ1_charAt_3b067_12 ?_
  refine lv_i2c hx hb dJ1_charAt_3b067_13 rfl ?_
  obtain rfl := Option.some.inj hrun
  exact k_retz C0 hP hD hS () rfl rfl (pk_nc _) dJ1_charAt_3b067_14
theorem u_J0_charAt_5068e_1 : (Cond.fieldLink RJ0 9 "java/lang/String" "value" "[B") ∈ wsJ0_charAt_5068e := List.mem_of_getElem? (i := 1) (by decide +kernel)
abbrev rm_J0_charAt_5068e : Room := { frames := 3, cells := 0, slots := 0, locals := 64 }
theorem e_J0_charAt_5068e : yJ0_charAt_5068e.cls = RJ0 ∧ yJ0_charAt_5068e.cls ≠ "java/lang/invoke/MethodHandle" ∧ yJ0_charAt_5068e.cls ≠ "java/lang/invoke/VarHandle" ∧ (parseMethodDescriptor yJ0_charAt_5068e.desc).map (fun d => d.parameters.length) = some 1 := by decide +kernel
set_option maxHeartbeats 4000000 in
set_option maxRecDepth 100000 in
theorem c_J0_charAt_5068e {l : Launch} {G : k_G} {c_t : Nat} {sz : Nat} {p1 : Int32} {out : Int32} (hrun : f_J0_charAt_5068e c_t p1 = some out) : k_Ci l G yJ0_charAt_5068e wsJ0_charAt_5068e rm_J0_charAt_5068e [.ref (k_tK G c_t), .int p1] [] sz out (fun (_ : Unit) => []) 0 0 := by
  refine k_of (cc := cJ0_charAt_5068e) (nL := 2) (ret := some .char) (own := RJ0) (nm := "charAt") (by decide) rfl rfl rfl rfl ?_
  intro p e s m args below meth c ls hsz C0 hP hD hS hl
  have hl : lv_has ls 2 [(0, .ref (k_tK G c_t)), (1, .int p1)] := hl
  generalize hH : s.heap = H at hP
  have hS : va_S (va_A [] sz) s.heap H [] := by rw [← hH]; exact hS
  clear hH
  generalize va_A [] sz = A at C0 hD hS ⊢
  have hx := C0.1
  have hb := C0.2.1
  have hts := C0.2.2.2.1
  have hown := C0.2.2.2.2.1
  have hK := C0.2.2.2.2.2.2.2.2.1.1
  have hNW := C0.2.2.2.2.2.2.2.2.1.2.1
  have hSF := C0.2.2.2.2.2.2.2.2.1.2.2
  rw [f_J0_charAt_5068e] at hrun
  refine lv_aload_n hx hb dJ0_charAt_5068e_0 rfl (lv_at hl 0 rfl) ?_
  obtain ⟨gz1, hrun⟩ := gd_inv hrun
  obtain ⟨t2, et2, hrun⟩ := bd_inv hrun
  refine k_calli0 C0 (k_runVR (rest := []) C0 (c_J0_isLatin1_aae02 et2) (cwV 0 hts gJ0_charAt_5068e_J0_isLatin1_aae02 rfl rfl rfl e_J0_isLatin1_aae02 ⟨Nat.le_of_ble_eq_true rfl, Nat.le_of_ble_eq_true rfl⟩) hP hD hS [] rfl (by decide) (k_recv hSF.2.2.2.2.1 gz1 hS) rfl hl.1 rfl (Nat.le_of_ble_eq_true rfl) dJ0_charAt_5068e_1 ⟨Nat.le_of_ble_eq_true rfl, Nat.le_of_ble_eq_true rfl⟩) hP hS (fun H locs hP hS => ?_)
  refine lv_if_eq (tgt := 16) hx hb dJ0_charAt_5068e_4 (by decide) (fun q3 => ?_) (fun q3 => ?_)
  · replace hrun := if_t q3 hrun
    cases hrun
  · replace hrun := if_f q3 hrun
    refine lv_aload_n hx hb dJ0_charAt_5068e_7 rfl (lv_at hl 0 rfl) ?_
    obtain ⟨gz4, hrun⟩ := gd_inv hrun
    refine vk_getf hx hb (hSF.2.2.2.2.1.1 _ gz4).2.2.1 hS hown (hts _ u_J0_charAt_5068e_1) (fun _ h9 => h9) dJ0_charAt_5068e_8 ?_
    refine lv_iload_n hx hb dJ0_charAt_5068e_11 rfl (lv_at hl 1 rfl) ?_
    obtain ⟨t5, et5, hrun⟩ := bd_inv hrun
    refine k_calli0 C0 (k_runS (rest := []) C0 (c_J1_charAt_3b067 et5) (va_cwS 2 hts gJ0_charAt_5068e_J1_charAt_3b067 rfl rfl rfl e_J1_charAt_3b067.2 ⟨Nat.le_of_ble_eq_true rfl, Nat.le_of_ble_eq_true rfl⟩) hP hD hS [] rfl (by decide) rfl hl.1 rfl (Nat.le_of_ble_eq_true rfl) dJ0_charAt_5068e_12 ⟨Nat.le_of_ble_eq_true rfl, Nat.le_of_ble_eq_true rfl⟩) hP hS (fun H locs hP hS => ?_)
    obtain ⟨gz6, hrun⟩ := gd_inv hrun
    obtain rfl := Option.some.inj hrun
    exact k_retz C0 hP hD hS () rfl rfl (k_narc gz6) dJ0_charAt_5068e_15
theorem u_X7_codeOf_1 : (Cond.constantLong RX7 191 (32)) ∈ wsX7_codeOf := List.mem_of_getElem? (i := 1) (by decide +kernel)
abbrev rm_X7_codeOf : Room := { frames := 4, cells := 0, slots := 0, locals := 85 }
theorem e_X7_codeOf : yX7_codeOf.cls = RX7 ∧ yX7_codeOf.cls ≠ "java/lang/invoke/MethodHandle" ∧ yX7_codeOf.cls ≠ "java/lang/invoke/VarHandle" ∧ (parseMethodDescriptor yX7_codeOf.desc).map (fun d => d.parameters.length) = some 1 := by decide +kernel
set_option maxHeartbeats 4000000 in
set_option maxRecDepth 100000 in
theorem t_X7_codeOf_4 {l : Launch} {G : k_G} {p : Program} {e : Env} {s : State} {m : MethodId} {args : Array Value} {below : List Frame} {meth : Method} {c : Code} {A : Nat → Prop} {out : Int64} (C0 : k_C G p s m args meth c A cX7_codeOf RX7 wsX7_codeOf 4 (some .long) "codeOf") : ∀ (n : Nat) (c_a0 : Nat) (x1 : Int64) (x3 : Int32) (H : Heap) (locs : List Loc) (ls : Array Slot), va_P G.1 vwCl [] H → va_D A [] → va_S A s.heap H locs → lv_has ls 4 [(0, .ref (k_tK G c_a0)), (1, .long x1), (3, .int x3)] → f_X7_codeOf_4 n c_a0 x1 x3 = some out → W p l e rm_X7_codeOf s m args below meth c H locs 0 0 (MQ below (k_Ql G A out (fun (_ : Unit) => [])) args s 0 0 A) (F0 m 4 ls []) := by
  have hx := C0.1
  have hb := C0.2.1
  have hts := C0.2.2.2.1
  have hown := C0.2.2.2.2.1
  have hK := C0.2.2.2.2.2.2.2.2.1.1
  have hNW := C0.2.2.2.2.2.2.2.2.1.2.1
  have hSF := C0.2.2.2.2.2.2.2.2.1.2.2
  intro n
  induction n with
  | zero =>
    intro c_a0 x1 x3 H locs ls hP hD hS hl hrun
    rw [f_X7_codeOf_4] at hrun
    cases hrun
  | succ n ih =>
    intro c_a0 x1 x3 H locs ls hP hD hS hl hrun
    rw [f_X7_codeOf_4] at hrun
    refine lv_iload_n hx hb dX7_codeOf_4 rfl (lv_at hl 2 rfl) ?_
    refine lv_aload_n hx hb dX7_codeOf_5 rfl (lv_at hl 0 rfl) ?_
    obtain ⟨gz1, hrun⟩ := gd_inv hrun
    obtain ⟨t2, et2, hrun⟩ := bd_inv hrun
    refine k_calli0 C0 (k_runVR (rest := [.int x3]) C0 (c_J0_length_8abf5 et2) (cwV 0 hts gX7_codeOf_J0_length_8abf5 rfl rfl rfl e_J0_length_8abf5 ⟨Nat.le_of_ble_eq_true rfl, Nat.le_of_ble_eq_true rfl⟩) hP hD hS [] rfl (by decide) (k_recv hSF.2.2.2.2.1 gz1 hS) rfl hl.1 rfl (Nat.le_of_ble_eq_true rfl) dX7_codeOf_6 ⟨Nat.le_of_ble_eq_true rfl, Nat.le_of_ble_eq_true rfl⟩) hP hS (fun H locs hP hS => ?_)
    refine lv_icmp_ge (tgt := 36) hx hb dX7_codeOf_9 (by decide) (fun q3 => ?_) (fun q3 => ?_)
    · replace hrun := if_t q3 hrun
      refine lv_lload_n hx hb dX7_codeOf_36 rfl (lv_at hl 1 rfl) ?_
      obtain rfl := Option.some.inj hrun
      exact k_retl C0 hP hD hS () rfl rfl dX7_codeOf_37
    · replace hrun := if_f q3 hrun
      refine lv_lload_n hx hb dX7_codeOf_12 rfl (lv_at hl 1 rfl) ?_
      refine lv_ldc2 (v := 32) hx hb hown (hts _ u_X7_codeOf_1) dX7_codeOf_13 ?_
      refine lv_lmul hx hb dX7_codeOf_16 ?_
      refine lv_aload_n hx hb dX7_codeOf_17 rfl (lv_at hl 0 rfl) ?_
      refine lv_iload_n hx hb dX7_codeOf_18 rfl (lv_at hl 2 rfl) ?_
      obtain ⟨gz4, hrun⟩ := gd_inv hrun
      obtain ⟨t5, et5, hrun⟩ := bd_inv hrun
      refine k_calli0 C0 (k_runVR (rest := [.long (x1 * (32 : Int64))]) C0 (c_J0_charAt_5068e et5) (cwV 1 hts gX7_codeOf_J0_charAt_5068e rfl rfl rfl e_J0_charAt_5068e ⟨Nat.le_of_ble_eq_true rfl, Nat.le_of_ble_eq_true rfl⟩) hP hD hS [] rfl (by decide) (k_recv hSF.2.2.2.2.1 gz4 hS) rfl hl.1 rfl (Nat.le_of_ble_eq_true rfl) dX7_codeOf_19 ⟨Nat.le_of_ble_eq_true rfl, Nat.le_of_ble_eq_true rfl⟩) hP hS (fun H locs hP hS => ?_)
      refine lv_bipush (v := 97) hx hb dX7_codeOf_22 (by decide) ?_
      refine lv_isub hx hb dX7_codeOf_24 ?_
      refine lv_iconst (v := 1) hx hb dX7_codeOf_25 (by decide) ?_
      refine lv_iadd hx hb dX7_codeOf_26 ?_
      refine lv_i2l hx hb dX7_codeOf_27 rfl ?_
      refine lv_ladd hx hb dX7_codeOf_28 ?_
      obtain ⟨n6, en, hrun⟩ := lt_inv hrun
      refine k_nml en ?_
      clear en
      refine lv_lstore_n (lv' := [(1, .long n6), (0, .ref (k_tK G c_a0)), (3, .int x3)]) hx hb dX7_codeOf_29 rfl hl (by decide) rfl (fun ls hl => ?_)
      refine lv_iinc (v := x3 + 1) (lv' := [(3, .int (x3 + 1)), (1, .long n6), (0, .ref (k_tK G c_a0))]) hx hb dX7_codeOf_30 hl (k := 2) rfl rfl (by decide) rfl (fun ls hl => ?_)
      refine lv_goto (tgt := 4) hx hb dX7_codeOf_33 (by decide) ?_
      exact ih c_a0 n6 (x3 + 1) _ _ _ hP hD hS (lv_sub hl [2, 1, 0] rfl) hrun
set_option maxHeartbeats 4000000 in
set_option maxRecDepth 100000 in
theorem c_X7_codeOf {l : Launch} {G : k_G} {c_a0 : Nat} {sz : Nat} {out : Int64} (hrun : f_X7_codeOf c_a0 = some out) : k_Cl l G yX7_codeOf wsX7_codeOf rm_X7_codeOf [.ref (k_tK G c_a0)] [] sz out (fun (_ : Unit) => []) 0 0 := by
  refine k_of (cc := cX7_codeOf) (nL := 4) (ret := some .long) (own := RX7) (nm := "codeOf") (by decide) rfl rfl rfl rfl ?_
  intro p e s m args below meth c ls hsz C0 hP hD hS hl
  have hl : lv_has ls 4 [(0, .ref (k_tK G c_a0))] := hl
  generalize hH : s.heap = H at hP
  have hS : va_S (va_A [] sz) s.heap H [] := by rw [← hH]; exact hS
  clear hH
  generalize va_A [] sz = A at C0 hD hS ⊢
  have hx := C0.1
  have hb := C0.2.1
  have hts := C0.2.2.2.1
  have hown := C0.2.2.2.2.1
  have hK := C0.2.2.2.2.2.2.2.2.1.1
  have hNW := C0.2.2.2.2.2.2.2.2.1.2.1
  have hSF := C0.2.2.2.2.2.2.2.2.1.2.2
  rw [f_X7_codeOf] at hrun
  refine lv_lconst (v := 0) hx hb dX7_codeOf_0 (by decide) ?_
  refine lv_lstore_n (lv' := [(1, .long (0 : Int64)), (0, .ref (k_tK G c_a0))]) hx hb dX7_codeOf_1 rfl hl (by decide) rfl (fun ls hl => ?_)
  refine lv_iconst (v := 0) hx hb dX7_codeOf_2 (by decide) ?_
  refine lv_istore_n (lv' := [(3, .int (0 : Int32)), (1, .long (0 : Int64)), (0, .ref (k_tK G c_a0))]) hx hb dX7_codeOf_3 rfl hl (by decide) rfl (fun ls hl => ?_)
  exact t_X7_codeOf_4 C0 kFU c_a0 (0 : Int64) (0 : Int32) _ _ _ hP hD hS (lv_sub hl [2, 1, 0] rfl) hrun
