def f_L_step (p0 : Int32) (p1 : Int32) (p2 : Int32) : Option (Int32) :=
  gd (¬ p0 = 0) <|
  if ((p1 >>> (((p0 - (1 : Int32)) - (p2 - p2 / p0 * p0)) &&& 31)) &&& (1 : Int32)) = (1 : Int32) then
    some (1 : Int32)
  else
    some (-1 : Int32)
def f_L_slipped (p0 : Int32) (p1 : Int32) (p2 : Int32) : Option (Int32) :=
  some (p1 ^^^ ((1 : Int32) <<< (((p0 - (1 : Int32)) - p2) &&& 31)))
def f_L_look_68 (k6 : Int32 → Int32 → Int32 → Int32 → Int32 → Int32 → Int32 → Option (Int32)) (x0 : Int32) (x1 : Int32) (x2 : Int32) (x3 : Int32) (x4 : Int32) (x6 : Int32) (s0 : Int32) (s1 : Int32) : Option (Int32) :=
  lt (s0 + s1) fun n1 =>
  k6 x0 x1 x2 x3 x4 n1 (x6 + 1)
def f_L_look_54 (k6 : Int32 → Int32 → Int32 → Int32 → Int32 → Int32 → Int32 → Option (Int32)) (x0 : Int32) (x1 : Int32) (x2 : Int32) (x3 : Int32) (x4 : Int32) (x5 : Int32) (x6 : Int32) (x7 : Int32) : Option (Int32) :=
  if x7 ≤ 0 then
    f_L_look_68 k6 x0 x1 x2 x3 x4 x6 ((2 : Int32) * x5) (0 : Int32)
  else
    f_L_look_68 k6 x0 x1 x2 x3 x4 x6 ((2 : Int32) * x5) (1 : Int32)
def f_L_look_43 (k6 : Int32 → Int32 → Int32 → Int32 → Int32 → Int32 → Int32 → Option (Int32)) (x0 : Int32) (x1 : Int32) (x2 : Int32) (x3 : Int32) (x4 : Int32) (x5 : Int32) (x6 : Int32) (s0 : Int32) : Option (Int32) :=
  if x3 = 0 then
    f_L_look_54 k6 x0 x1 x2 x3 x4 x5 x6 s0
  else
    (lt (-s0) fun n2 =>
     f_L_look_54 k6 x0 x1 x2 x3 x4 x5 x6 n2)
def f_L_look_6 : Nat → Int32 → Int32 → Int32 → Int32 → Int32 → Int32 → Int32 → Option (Int32)
  | 0, _, _, _, _, _, _, _ => none
  | n + 1, x0, x1, x2, x3, x4, x5, x6 =>
    if x0 ≤ x6 then
      (some x5)
    else
      (if x4 = 0 then
         (bd (f_L_step x0 x1 (x2 + x6)) fun t3 =>
          f_L_look_43 (fun x0 x1 x2 x3 x4 x5 x6 => f_L_look_6 n x0 x1 x2 x3 x4 x5 x6) x0 x1 x2 x3 x4 x5 x6 t3)
       else
         (bd (f_L_step x0 x1 (((x2 + x0) - (1 : Int32)) - x6)) fun t4 =>
          f_L_look_43 (fun x0 x1 x2 x3 x4 x5 x6 => f_L_look_6 n x0 x1 x2 x3 x4 x5 x6) x0 x1 x2 x3 x4 x5 x6 (-t4)))
def f_L_look (p0 : Int32) (p1 : Int32) (p2 : Int32) (p3 : Int32) (p4 : Int32) : Option (Int32) :=
  f_L_look_6 kFU p0 p1 p2 p3 p4 (0 : Int32) (0 : Int32)
def f_L_energy_57 (k5 : Int32 → Int32 → Int32 → Int32 → (Nat → Int32) → Option (Int32)) (k14 : Int32 → Int32 → Int32 → Int32 → Int32 → (Nat → Int32) → Option (Int32)) (x1 : Int32) (x2 : Int32) (x4 : Int32) (x5 : Int32) (s0 : Int32) (s1 : Int32) (w_a0 : Nat → Int32) : Option (Int32) :=
  lt (s0 + s1) fun n1 =>
  k14 x1 x2 n1 x4 (x5 + 1) w_a0
def f_L_energy_14 (k5 : Int32 → Int32 → Int32 → Int32 → (Nat → Int32) → Option (Int32)) : Nat → Int32 → Int32 → Int32 → Int32 → Int32 → (Nat → Int32) → Option (Int32)
  | 0, _, _, _, _, _, _ => none
  | n + 1, x1, x2, x3, x4, x5, w_a0 =>
    if x1 ≤ x5 then
      (k5 x1 x2 x3 (x4 + 1) w_a0)
    else
      (bd (f_L_step x1 x2 x5) fun t2 =>
       bd (f_L_step x1 x2 (x5 + x4)) fun t3 =>
       if t2 = t3 then
         (gd (inR (x4 - (1 : Int32)) 21) <|
          f_L_energy_57 k5 (fun x1 x2 x3 x4 x5 w_a0 => f_L_energy_14 k5 n x1 x2 x3 x4 x5 w_a0) x1 x2 x4 x5 x3 (-(w_a0 (x4 - (1 : Int32)).toNatClampNeg)) w_a0)
       else
         (gd (inR (x4 - (1 : Int32)) 21) <|
          f_L_energy_57 k5 (fun x1 x2 x3 x4 x5 w_a0 => f_L_energy_14 k5 n x1 x2 x3 x4 x5 w_a0) x1 x2 x4 x5 x3 (w_a0 (x4 - (1 : Int32)).toNatClampNeg) w_a0))
def f_L_energy_5 : Nat → Int32 → Int32 → Int32 → Int32 → (Nat → Int32) → Option (Int32)
  | 0, _, _, _, _, _ => none
  | n + 1, x1, x2, x3, x4, w_a0 =>
    if (4 : Int32) ≤ x4 then
      (some x3)
    else
      f_L_energy_14 (fun x1 x2 x3 x4 w_a0 => f_L_energy_5 n x1 x2 x3 x4 w_a0) kFU x1 x2 x3 x4 (0 : Int32) w_a0
def f_L_energy (p1 : Int32) (p2 : Int32) (w_a0 : Nat → Int32) : Option (Int32) :=
  f_L_energy_5 kFU p1 p2 (0 : Int32) (1 : Int32) w_a0
def f_L_flush (w_a1 : Nat → Int32) (σ : k_SB) : Option ((Nat → Int32) × k_SB) :=
  gd (inR (0 : Int32) 7) <|
  gd (inR (1 : Int32) 7) <|
  gd (inR (2 : Int32) 7) <|
  gd (inR (3 : Int32) 7) <|
  gd (inR (4 : Int32) 7) <|
  bd (fx_feed (w_a1 (0 : Int32).toNatClampNeg) (w_a1 (1 : Int32).toNatClampNeg) (w_a1 (2 : Int32).toNatClampNeg) (w_a1 (3 : Int32).toNatClampNeg) (w_a1 (4 : Int32).toNatClampNeg) σ) fun t6 =>
  lt (ux_feed σ t6) fun σ7 =>
  gd (inR (5 : Int32) 7) <|
  lt (upd w_a1 (5 : Int32).toNatClampNeg (0 : Int32)) fun w10 =>
  some (w10, σ7)
def f_L_put (p2 : Int32) (w_a1 : Nat → Int32) (σ : k_SB) : Option ((Nat → Int32) × k_SB) :=
  gd (inR (5 : Int32) 7) <|
  lt (w_a1 (5 : Int32).toNatClampNeg) fun n2 =>
  gd (inR (n2 / (4 : Int32)) 7) <|
  lt (((w_a1 (n2 / (4 : Int32)).toNatClampNeg) <<< ((8 : Int32) &&& 31)) ||| p2) fun n4 =>
  gd (inR (n2 / (4 : Int32)) 7) <|
  lt (upd w_a1 (n2 / (4 : Int32)).toNatClampNeg n4) fun w6 =>
  gd (inR (5 : Int32) 7) <|
  lt ((w6 (5 : Int32).toNatClampNeg) + (1 : Int32)) fun n8 =>
  gd (inR (5 : Int32) 7) <|
  lt (upd w6 (5 : Int32).toNatClampNeg n8) fun w10 =>
  gd (inR (6 : Int32) 7) <|
  lt ((w10 (6 : Int32).toNatClampNeg) + (1 : Int32)) fun n12 =>
  gd (inR (6 : Int32) 7) <|
  lt (upd w10 (6 : Int32).toNatClampNeg n12) fun w14 =>
  gd (inR (5 : Int32) 7) <|
  if (w14 (5 : Int32).toNatClampNeg) = (20 : Int32) then
    (bd (f_L_flush w14 σ) fun t17 =>
     some (t17.1, t17.2))
  else
    some (w14, σ)
def f_L_say_36 (k4 : Int64 → Int32 → (Nat → Int32) → k_SB → Option ((Nat → Int32) × k_SB)) (x2 : Int64) (x4 : Int32) (w_a1 : Nat → Int32) (σ : k_SB) : Option ((Nat → Int32) × k_SB) :=
  k4 x2 (x4 + (-8)) w_a1 σ
def f_L_say_4 : Nat → Int64 → Int32 → (Nat → Int32) → k_SB → Option ((Nat → Int32) × k_SB)
  | 0, _, _, _, _ => none
  | n + 1, x2, x4, w_a1, σ =>
    if x4 < 0 then
      some (w_a1, σ)
    else
      (if (lg_cmp ((x2 >>> (x4.toInt64 &&& 63)) &&& (255 : Int64)) (0 : Int64)) = 0 then
         f_L_say_36 (fun x2 x4 w_a1 σ => f_L_say_4 n x2 x4 w_a1 σ) x2 x4 w_a1 σ
       else
         (bd (f_L_put (((x2 >>> (x4.toInt64 &&& 63)) &&& (255 : Int64)).toInt32) w_a1 σ) fun t3 =>
          f_L_say_36 (fun x2 x4 w_a1 σ => f_L_say_4 n x2 x4 w_a1 σ) x2 x4 t3.1 t3.2))
def f_L_say (p2 : Int64) (w_a1 : Nat → Int32) (σ : k_SB) : Option ((Nat → Int32) × k_SB) :=
  f_L_say_4 kFU p2 (56 : Int32) w_a1 σ
def f_L_said_5 : Nat → Int32 → (Nat → Int32) → k_SB → Option (Int32 × (Nat → Int32) × k_SB)
  | 0, _, _, _ => none
  | n + 1, x2, w_a1, σ =>
    gd (inR (5 : Int32) 7) <|
    if (w_a1 (5 : Int32).toNatClampNeg) ≤ 0 then
      (gd (inR (6 : Int32) 7) <|
       lt (upd w_a1 (6 : Int32).toNatClampNeg (0 : Int32)) fun w4 =>
       some (x2, w4, σ))
    else
      (bd (f_L_put (32 : Int32) w_a1 σ) fun t5 =>
       f_L_said_5 n x2 t5.1 t5.2)
def f_L_said (w_a1 : Nat → Int32) (σ : k_SB) : Option (Int32 × (Nat → Int32) × k_SB) :=
  gd (inR (6 : Int32) 7) <|
  lt (w_a1 (6 : Int32).toNatClampNeg) fun n2 =>
  f_L_said_5 kFU n2 w_a1 σ
def f_L_number_49 : Nat → Int32 → Int32 → (Nat → Int32) → k_SB → Option ((Nat → Int32) × k_SB)
  | 0, _, _, _, _ => none
  | n + 1, x3, x4, w_a1, σ =>
    if x4 ≤ 0 then
      some (w_a1, σ)
    else
      (gd (¬ x4 = 0) <|
       bd (f_L_put ((48 : Int32) + ((x3 / x4) - (x3 / x4) / (10 : Int32) * (10 : Int32))) w_a1 σ) fun t3 =>
       lt (x4 / (10 : Int32)) fun n5 =>
       f_L_number_49 n x3 n5 t3.1 t3.2)
def f_L_number_27 : Nat → Int32 → Int32 → (Nat → Int32) → k_SB → Option ((Nat → Int32) × k_SB)
  | 0, _, _, _, _ => none
  | n + 1, x3, x4, w_a1, σ =>
    if x4 ≤ (1 : Int32) then
      f_L_number_49 kFU x3 x4 w_a1 σ
    else
      (if x4 ≤ x3 then
         f_L_number_49 kFU x3 x4 w_a1 σ
       else
         (lt (x4 / (10 : Int32)) fun n3 =>
          f_L_number_27 n x3 n3 w_a1 σ))
def f_L_number_21 (s0 : Int32) (w_a1 : Nat → Int32) (σ : k_SB) : Option ((Nat → Int32) × k_SB) :=
  f_L_number_27 kFU s0 (1000 : Int32) w_a1 σ
def f_L_number_11 (x2 : Int32) (w_a1 : Nat → Int32) (σ : k_SB) : Option ((Nat → Int32) × k_SB) :=
  if 0 ≤ x2 then
    f_L_number_21 x2 w_a1 σ
  else
    f_L_number_21 (-x2) w_a1 σ
def f_L_number (p2 : Int32) (w_a1 : Nat → Int32) (σ : k_SB) : Option ((Nat → Int32) × k_SB) :=
  if 0 ≤ p2 then
    f_L_number_11 p2 w_a1 σ
  else
    (bd (f_L_put (45 : Int32) w_a1 σ) fun t2 =>
     f_L_number_11 p2 t2.1 t2.2)
def f_L_below (p2 : Int32) (w_a1 : Nat → Int32) (σ : k_SB) : Option ((Nat → Int32) × k_SB) :=
  if 0 ≤ p2 then
    (bd (f_L_number p2 w_a1 σ) fun t2 =>
     some (t2.1, t2.2))
  else
    (bd (f_L_put (45 : Int32) w_a1 σ) fun t4 =>
     bd (f_L_number (-p2) t4.1 t4.2) fun t6 =>
     some (t6.1, t6.2))
abbrev rm_L_step : Room := { frames := 0, cells := 0, slots := 0, locals := 0 }
theorem e_L_step : yL_step.cls = RL ∧ yL_step.cls ≠ "java/lang/invoke/MethodHandle" ∧ yL_step.cls ≠ "java/lang/invoke/VarHandle" ∧ (parseMethodDescriptor yL_step.desc).map (fun d => d.parameters.length) = some 3 := by decide +kernel
set_option maxHeartbeats 4000000 in
set_option maxRecDepth 100000 in
theorem c_L_step {l : Launch} {G : k_G} {sz : Nat} {p0 : Int32} {p1 : Int32} {p2 : Int32} {out : Int32} (hrun : f_L_step p0 p1 p2 = some out) : k_Ci l G yL_step wsL_step rm_L_step [.int p0, .int p1, .int p2] [] sz out (fun (_ : Unit) => []) 0 0 := by
  refine k_of (cc := cL_step) (nL := 3) (ret := some .int) (own := RL) (nm := "step") (by decide) rfl rfl rfl rfl ?_
  intro p e s m args below meth c ls hsz C0 hP hD hS hl
  have hl : lv_has ls 3 [(0, .int p0), (1, .int p1), (2, .int p2)] := hl
  generalize hH : s.heap = H at hP
  have hS : va_S (va_A [] sz) s.heap H [] := by rw [← hH]; exact hS
  clear hH
  generalize va_A [] sz = A at C0 hD hS ⊢
  have hx := C0.1
  have hb := C0.2.1
  have hts := C0.2.2.2.1
  have hown := C0.2.2.2.2.1
  have hK := C0.2.2.2.2.2.2.2.2.1.1
  have hNW := C0.2.2.2.2.2.2.2.2.1.2.1
  have hSF := C0.2.2.2.2.2.2.2.2.1.2.2
  rw [f_L_step] at hrun
  refine lv_iload_n hx hb dL_step_0 rfl (lv_at hl 1 rfl) ?_
  refine lv_iload_n hx hb dL_step_1 rfl (lv_at hl 0 rfl) ?_
  refine lv_iconst (v := 1) hx hb dL_step_2 (by decide) ?_
  refine lv_isub hx hb dL_step_3 ?_
  refine lv_iload_n hx hb dL_step_4 rfl (lv_at hl 2 rfl) ?_
  refine lv_iload_n hx hb dL_step_5 rfl (lv_at hl 0 rfl) ?_
  obtain ⟨gz1, hrun⟩ := gd_inv hrun
  refine lv_irem hx hb dL_step_6 gz1 ?_
  refine lv_isub hx hb dL_step_7 ?_
  refine lv_ishr hx hb dL_step_8 ?_
  refine lv_iconst (v := 1) hx hb dL_step_9 (by decide) ?_
  refine lv_iand hx hb dL_step_10 ?_
  refine lv_iconst (v := 1) hx hb dL_step_11 (by decide) ?_
  refine lv_icmp_ne (tgt := 19) hx hb dL_step_12 (by decide) (fun q2 => ?_) (fun q2 => ?_)
  · replace hrun := if_f q2 hrun
    refine lv_iconst (v := -1) hx hb dL_step_19 (by decide) ?_
    obtain rfl := Option.some.inj hrun
    exact k_reti C0 hP hD hS () rfl rfl dL_step_20
  · replace hrun := if_t q2 hrun
    refine lv_iconst (v := 1) hx hb dL_step_15 (by decide) ?_
    refine lv_goto (tgt := 20) hx hb dL_step_16 (by decide) ?_
    obtain rfl := Option.some.inj hrun
    exact k_reti C0 hP hD hS () rfl rfl dL_step_20
abbrev rm_L_slipped : Room := { frames := 0, cells := 0, slots := 0, locals := 0 }
theorem e_L_slipped : yL_slipped.cls = RL ∧ yL_slipped.cls ≠ "java/lang/invoke/MethodHandle" ∧ yL_slipped.cls ≠ "java/lang/invoke/VarHandle" ∧ (parseMethodDescriptor yL_slipped.desc).map (fun d => d.parameters.length) = some 3 := by decide +kernel
set_option maxHeartbeats 4000000 in
set_option maxRecDepth 100000 in
theorem c_L_slipped {l : Launch} {G : k_G} {sz : Nat} {p0 : Int32} {p1 : Int32} {p2 : Int32} {out : Int32} (hrun : f_L_slipped p0 p1 p2 = some out) : k_Ci l G yL_slipped wsL_slipped rm_L_slipped [.int p0, .int p1, .int p2] [] sz out (fun (_ : Unit) => []) 0 0 := by
  refine k_of (cc := cL_slipped) (nL := 3) (ret := some .int) (own := RL) (nm := "slipped") (by decide) rfl rfl rfl rfl ?_
  intro p e s m args below meth c ls hsz C0 hP hD hS hl
  have hl : lv_has ls 3 [(0, .int p0), (1, .int p1), (2, .int p2)] := hl
  generalize hH : s.heap = H at hP
  have hS : va_S (va_A [] sz) s.heap H [] := by rw [← hH]; exact hS
  clear hH
  generalize va_A [] sz = A at C0 hD hS ⊢
  have hx := C0.1
  have hb := C0.2.1
  have hts := C0.2.2.2.1
  have hown := C0.2.2.2.2.1
  have hK := C0.2.2.2.2.2.2.2.2.1.1
  have hNW := C0.2.2.2.2.2.2.2.2.1.2.1
  have hSF := C0.2.2.2.2.2.2.2.2.1.2.2
  rw [f_L_slipped] at hrun
  refine lv_iload_n hx hb dL_slipped_0 rfl (lv_at hl 1 rfl) ?_
  refine lv_iconst (v := 1) hx hb dL_slipped_1 (by decide) ?_
  refine lv_iload_n hx hb dL_slipped_2 rfl (lv_at hl 0 rfl) ?_
  refine lv_iconst (v := 1) hx hb dL_slipped_3 (by decide) ?_
  refine lv_isub hx hb dL_slipped_4 ?_
  refine lv_iload_n hx hb dL_slipped_5 rfl (lv_at hl 2 rfl) ?_
  refine lv_isub hx hb dL_slipped_6 ?_
  refine lv_ishl hx hb dL_slipped_7 ?_
  refine lv_ixor hx hb dL_slipped_8 ?_
  obtain rfl := Option.some.inj hrun
  exact k_reti C0 hP hD hS () rfl rfl dL_slipped_9
abbrev rm_L_look : Room := { frames := 1, cells := 0, slots := 0, locals := 22 }
theorem e_L_look : yL_look.cls = RL ∧ yL_look.cls ≠ "java/lang/invoke/MethodHandle" ∧ yL_look.cls ≠ "java/lang/invoke/VarHandle" ∧ (parseMethodDescriptor yL_look.desc).map (fun d => d.parameters.length) = some 5 := by decide +kernel
set_option maxHeartbeats 4000000 in
set_option maxRecDepth 100000 in
theorem t_L_look_68 {l : Launch} {G : k_G} {p : Program} {e : Env} {s : State} {m : MethodId} {args : Array Value} {below : List Frame} {meth : Method} {c : Code} {A : Nat → Prop} {out : Int32} (C0 : k_C G p s m args meth c A cL_look RL wsL_look 8 (some .int) "look") (k6 : Int32 → Int32 → Int32 → Int32 → Int32 → Int32 → Int32 → Option (Int32)) (hk6 : ∀ (x0 : Int32) (x1 : Int32) (x2 : Int32) (x3 : Int32) (x4 : Int32) (x5 : Int32) (x6 : Int32) (H : Heap) (locs : List Loc) (ls : Array Slot), va_P G.1 vwCl [] H → va_D A [] → va_S A s.heap H locs → lv_has ls 8 [(0, .int x0), (1, .int x1), (2, .int x2), (3, .int x3), (4, .int x4), (5, .int x5), (6, .int x6)] → k6 x0 x1 x2 x3 x4 x5 x6 = some out → W p l e rm_L_look s m args below meth c H locs 0 0 (MQ below (k_Qi G A out (fun (_ : Unit) => [])) args s 0 0 A) (F0 m 6 ls [])) : ∀ (x0 : Int32) (x1 : Int32) (x2 : Int32) (x3 : Int32) (x4 : Int32) (x6 : Int32) (s0 : Int32) (s1 : Int32) (H : Heap) (locs : List Loc) (ls : Array Slot), va_P G.1 vwCl [] H → va_D A [] → va_S A s.heap H locs → lv_has ls 8 [(0, .int x0), (1, .int x1), (2, .int x2), (3, .int x3), (4, .int x4), (6, .int x6)] → f_L_look_68 k6 x0 x1 x2 x3 x4 x6 s0 s1 = some out → W p l e rm_L_look s m args below meth c H locs 0 0 (MQ below (k_Qi G A out (fun (_ : Unit) => [])) args s 0 0 A) (F0 m 68 ls [.int s1, .int s0]) := by
  have hx := C0.1
  have hb := C0.2.1
  have hts := C0.2.2.2.1
  have hown := C0.2.2.2.2.1
  have hK := C0.2.2.2.2.2.2.2.2.1.1
  have hNW := C0.2.2.2.2.2.2.2.2.1.2.1
  have hSF := C0.2.2.2.2.2.2.2.2.1.2.2
  intro x0 x1 x2 x3 x4 x6 s0 s1 H locs ls hP hD hS hl hrun
  rw [f_L_look_68] at hrun
  refine lv_iadd hx hb dL_look_68 ?_
  obtain ⟨n1, en, hrun⟩ := lt_inv hrun
  refine k_nmi en ?_
  clear en
  refine lv_istore (lv' := [(5, .int n1), (0, .int x0), (1, .int x1), (2, .int x2), (3, .int x3), (4, .int x4), (6, .int x6)]) hx hb dL_look_69 hl (by decide) rfl (fun ls hl => ?_)
  refine lv_iinc (v := x6 + 1) (lv' := [(6, .int (x6 + 1)), (5, .int n1), (0, .int x0), (1, .int x1), (2, .int x2), (3, .int x3), (4, .int x4)]) hx hb dL_look_71 hl (k := 6) rfl rfl (by decide) rfl (fun ls hl => ?_)
  refine lv_goto (tgt := 6) hx hb dL_look_74 (by decide) ?_
  exact hk6 x0 x1 x2 x3 x4 n1 (x6 + 1) _ _ _ hP hD hS (lv_sub hl [2, 3, 4, 5, 6, 1, 0] rfl) hrun
set_option maxHeartbeats 4000000 in
set_option maxRecDepth 100000 in
theorem t_L_look_54 {l : Launch} {G : k_G} {p : Program} {e : Env} {s : State} {m : MethodId} {args : Array Value} {below : List Frame} {meth : Method} {c : Code} {A : Nat → Prop} {out : Int32} (C0 : k_C G p s m args meth c A cL_look RL wsL_look 8 (some .int) "look") (k6 : Int32 → Int32 → Int32 → Int32 → Int32 → Int32 → Int32 → Option (Int32)) (hk6 : ∀ (x0 : Int32) (x1 : Int32) (x2 : Int32) (x3 : Int32) (x4 : Int32) (x5 : Int32) (x6 : Int32) (H : Heap) (locs : List Loc) (ls : Array Slot), va_P G.1 vwCl [] H → va_D A [] → va_S A s.heap H locs → lv_has ls 8 [(0, .int x0), (1, .int x1), (2, .int x2), (3, .int x3), (4, .int x4), (5, .int x5), (6, .int x6)] → k6 x0 x1 x2 x3 x4 x5 x6 = some out → W p l e rm_L_look s m args below meth c H locs 0 0 (MQ below (k_Qi G A out (fun (_ : Unit) => [])) args s 0 0 A) (F0 m 6 ls [])) : ∀ (x0 : Int32) (x1 : Int32) (x2 : Int32) (x3 : Int32) (x4 : Int32) (x5 : Int32) (x6 : Int32) (x7 : Int32) (H : Heap) (locs : List Loc) (ls : Array Slot), va_P G.1 vwCl [] H → va_D A [] → va_S A s.heap H locs → lv_has ls 8 [(0, .int x0), (1, .int x1), (2, .int x2), (3, .int x3), (4, .int x4), (5, .int x5), (6, .int x6), (7, .int x7)] → f_L_look_54 k6 x0 x1 x2 x3 x4 x5 x6 x7 = some out → W p l e rm_L_look s m args below meth c H locs 0 0 (MQ below (k_Qi G A out (fun (_ : Unit) => [])) args s 0 0 A) (F0 m 54 ls []) := by
  have hx := C0.1
  have hb := C0.2.1
  have hts := C0.2.2.2.1
  have hown := C0.2.2.2.2.1
  have hK := C0.2.2.2.2.2.2.2.2.1.1
  have hNW := C0.2.2.2.2.2.2.2.2.1.2.1
  have hSF := C0.2.2.2.2.2.2.2.2.1.2.2
  intro x0 x1 x2 x3 x4 x5 x6 x7 H locs ls hP hD hS hl hrun
  rw [f_L_look_54] at hrun
  refine lv_iconst (v := 2) hx hb dL_look_54 (by decide) ?_
  refine lv_iload hx hb dL_look_55 (lv_at hl 5 rfl) ?_
  refine lv_imul hx hb dL_look_57 ?_
  refine lv_iload hx hb dL_look_58 (lv_at hl 7 rfl) ?_
  refine lv_if_le (tgt := 67) hx hb dL_look_60 (by decide) (fun q1 => ?_) (fun q1 => ?_)
  · replace hrun := if_t q1 hrun
    refine lv_iconst (v := 0) hx hb dL_look_67 (by decide) ?_
    exact t_L_look_68 C0 k6 hk6 x0 x1 x2 x3 x4 x6 ((2 : Int32) * x5) (0 : Int32) _ _ _ hP hD hS (lv_sub hl [0, 1, 2, 3, 4, 6] rfl) hrun
  · replace hrun := if_f q1 hrun
    refine lv_iconst (v := 1) hx hb dL_look_63 (by decide) ?_
    refine lv_goto (tgt := 68) hx hb dL_look_64 (by decide) ?_
    exact t_L_look_68 C0 k6 hk6 x0 x1 x2 x3 x4 x6 ((2 : Int32) * x5) (1 : Int32) _ _ _ hP hD hS (lv_sub hl [0, 1, 2, 3, 4, 6] rfl) hrun
set_option maxHeartbeats 4000000 in
set_option maxRecDepth 100000 in
theorem t_L_look_43 {l : Launch} {G : k_G} {p : Program} {e : Env} {s : State} {m : MethodId} {args : Array Value} {below : List Frame} {meth : Method} {c : Code} {A : Nat → Prop} {out : Int32} (C0 : k_C G p s m args meth c A cL_look RL wsL_look 8 (some .int) "look") (k6 : Int32 → Int32 → Int32 → Int32 → Int32 → Int32 → Int32 → Option (Int32)) (hk6 : ∀ (x0 : Int32) (x1 : Int32) (x2 : Int32) (x3 : Int32) (x4 : Int32) (x5 : Int32) (x6 : Int32) (H : Heap) (locs : List Loc) (ls : Array Slot), va_P G.1 vwCl [] H → va_D A [] → va_S A s.heap H locs → lv_has ls 8 [(0, .int x0), (1, .int x1), (2, .int x2), (3, .int x3), (4, .int x4), (5, .int x5), (6, .int x6)] → k6 x0 x1 x2 x3 x4 x5 x6 = some out → W p l e rm_L_look s m args below meth c H locs 0 0 (MQ below (k_Qi G A out (fun (_ : Unit) => [])) args s 0 0 A) (F0 m 6 ls [])) : ∀ (x0 : Int32) (x1 : Int32) (x2 : Int32) (x3 : Int32) (x4 : Int32) (x5 : Int32) (x6 : Int32) (s0 : Int32) (H : Heap) (locs : List Loc) (ls : Array Slot), va_P G.1 vwCl [] H → va_D A [] → va_S A s.heap H locs → lv_has ls 8 [(0, .int x0), (1, .int x1), (2, .int x2), (3, .int x3), (4, .int x4), (5, .int x5), (6, .int x6)] → f_L_look_43 k6 x0 x1 x2 x3 x4 x5 x6 s0 = some out → W p l e rm_L_look s m args below meth c H locs 0 0 (MQ below (k_Qi G A out (fun (_ : Unit) => [])) args s 0 0 A) (F0 m 43 ls [.int s0]) := by
  have hx := C0.1
  have hb := C0.2.1
  have hts := C0.2.2.2.1
  have hown := C0.2.2.2.2.1
  have hK := C0.2.2.2.2.2.2.2.2.1.1
  have hNW := C0.2.2.2.2.2.2.2.2.1.2.1
  have hSF := C0.2.2.2.2.2.2.2.2.1.2.2
  intro x0 x1 x2 x3 x4 x5 x6 s0 H locs ls hP hD hS hl hrun
  rw [f_L_look_43] at hrun
  refine lv_istore (lv' := [(7, .int s0), (0, .int x0), (1, .int x1), (2, .int x2), (3, .int x3), (4, .int x4), (5, .int x5), (6, .int x6)]) hx hb dL_look_43 hl (by decide) rfl (fun ls hl => ?_)
  refine lv_iload_n hx hb dL_look_45 rfl (lv_at hl 4 rfl) ?_
  refine lv_if_eq (tgt := 54) hx hb dL_look_46 (by decide) (fun q1 => ?_) (fun q1 => ?_)
  · replace hrun := if_t q1 hrun
    exact t_L_look_54 C0 k6 hk6 x0 x1 x2 x3 x4 x5 x6 s0 _ _ _ hP hD hS (lv_sub hl [1, 2, 3, 4, 5, 6, 7, 0] rfl) hrun
  · replace hrun := if_f q1 hrun
    refine lv_iload hx hb dL_look_49 (lv_at hl 0 rfl) ?_
    refine lv_ineg hx hb dL_look_51 ?_
    obtain ⟨n2, en, hrun⟩ := lt_inv hrun
    refine k_nmi en ?_
    clear en
    refine lv_istore (lv' := [(7, .int n2), (0, .int x0), (1, .int x1), (2, .int x2), (3, .int x3), (4, .int x4), (5, .int x5), (6, .int x6)]) hx hb dL_look_52 hl (by decide) rfl (fun ls hl => ?_)
    exact t_L_look_54 C0 k6 hk6 x0 x1 x2 x3 x4 x5 x6 n2 _ _ _ hP hD hS (lv_sub hl [1, 2, 3, 4, 5, 6, 7, 0] rfl) hrun
set_option maxHeartbeats 4000000 in
set_option maxRecDepth 100000 in
theorem t_L_look_6 {l : Launch} {G : k_G} {p : Program} {e : Env} {s : State} {m : MethodId} {args : Array Value} {below : List Frame} {meth : Method} {c : Code} {A : Nat → Prop} {out : Int32} (C0 : k_C G p s m args meth c A cL_look RL wsL_look 8 (some .int) "look") : ∀ (n : Nat) (x0 : Int32) (x1 : Int32) (x2 : Int32) (x3 : Int32) (x4 : Int32) (x5 : Int32) (x6 : Int32) (H : Heap) (locs : List Loc) (ls : Array Slot), va_P G.1 vwCl [] H → va_D A [] → va_S A s.heap H locs → lv_has ls 8 [(0, .int x0), (1, .int x1), (2, .int x2), (3, .int x3), (4, .int x4), (5, .int x5), (6, .int x6)] → f_L_look_6 n x0 x1 x2 x3 x4 x5 x6 = some out → W p l e rm_L_look s m args below meth c H locs 0 0 (MQ below (k_Qi G A out (fun (_ : Unit) => [])) args s 0 0 A) (F0 m 6 ls []) := by
  have hx := C0.1
  have hb := C0.2.1
  have hts := C0.2.2.2.1
  have hown := C0.2.2.2.2.1
  have hK := C0.2.2.2.2.2.2.2.2.1.1
  have hNW := C0.2.2.2.2.2.2.2.2.1.2.1
  have hSF := C0.2.2.2.2.2.2.2.2.1.2.2
  intro n
  induction n with
  | zero =>
    intro x0 x1 x2 x3 x4 x5 x6 H locs ls hP hD hS hl hrun
    rw [f_L_look_6] at hrun
    cases hrun
  | succ n ih =>
    intro x0 x1 x2 x3 x4 x5 x6 H locs ls hP hD hS hl hrun
    rw [f_L_look_6] at hrun
    refine lv_iload hx hb dL_look_6 (lv_at hl 6 rfl) ?_
    refine lv_iload_n hx hb dL_look_8 rfl (lv_at hl 0 rfl) ?_
    refine lv_icmp_ge (tgt := 77) hx hb dL_look_9 (by decide) (fun q1 => ?_) (fun q1 => ?_)
    · replace hrun := if_t q1 hrun
      refine lv_iload hx hb dL_look_77 (lv_at hl 5 rfl) ?_
      obtain rfl := Option.some.inj hrun
      exact k_reti C0 hP hD hS () rfl rfl dL_look_79
    · replace hrun := if_f q1 hrun
      refine lv_iload hx hb dL_look_12 (lv_at hl 4 rfl) ?_
      refine lv_if_eq (tgt := 34) hx hb dL_look_14 (by decide) (fun q2 => ?_) (fun q2 => ?_)
      · replace hrun := if_t q2 hrun
        refine lv_iload_n hx hb dL_look_34 rfl (lv_at hl 0 rfl) ?_
        refine lv_iload_n hx hb dL_look_35 rfl (lv_at hl 1 rfl) ?_
        refine lv_iload_n hx hb dL_look_36 rfl (lv_at hl 2 rfl) ?_
        refine lv_iload hx hb dL_look_37 (lv_at hl 6 rfl) ?_
        refine lv_iadd hx hb dL_look_39 ?_
        obtain ⟨t3, et3, hrun⟩ := bd_inv hrun
        refine k_calli0 C0 (k_runS (rest := []) C0 (c_L_step et3) (va_cwS 3 hts gL_look_L_step rfl rfl rfl e_L_step.2 ⟨Nat.le_of_ble_eq_true rfl, Nat.le_of_ble_eq_true rfl⟩) hP hD hS [] rfl (by decide) rfl hl.1 rfl (Nat.le_of_ble_eq_true rfl) dL_look_40 ⟨Nat.le_of_ble_eq_true rfl, Nat.le_of_ble_eq_true rfl⟩) hP hS (fun H locs hP hS => ?_)
        exact t_L_look_43 C0 (fun x0 x1 x2 x3 x4 x5 x6 => f_L_look_6 n x0 x1 x2 x3 x4 x5 x6) ih x0 x1 x2 x3 x4 x5 x6 t3 _ _ _ hP hD hS hl hrun
      · replace hrun := if_f q2 hrun
        refine lv_iload_n hx hb dL_look_17 rfl (lv_at hl 0 rfl) ?_
        refine lv_iload_n hx hb dL_look_18 rfl (lv_at hl 1 rfl) ?_
        refine lv_iload_n hx hb dL_look_19 rfl (lv_at hl 2 rfl) ?_
        refine lv_iload_n hx hb dL_look_20 rfl (lv_at hl 0 rfl) ?_
        refine lv_iadd hx hb dL_look_21 ?_
        refine lv_iconst (v := 1) hx hb dL_look_22 (by decide) ?_
        refine lv_isub hx hb dL_look_23 ?_
        refine lv_iload hx hb dL_look_24 (lv_at hl 6 rfl) ?_
        refine lv_isub hx hb dL_look_26 ?_
        obtain ⟨t4, et4, hrun⟩ := bd_inv hrun
        refine k_calli0 C0 (k_runS (rest := []) C0 (c_L_step et4) (va_cwS 3 hts gL_look_L_step rfl rfl rfl e_L_step.2 ⟨Nat.le_of_ble_eq_true rfl, Nat.le_of_ble_eq_true rfl⟩) hP hD hS [] rfl (by decide) rfl hl.1 rfl (Nat.le_of_ble_eq_true rfl) dL_look_27 ⟨Nat.le_of_ble_eq_true rfl, Nat.le_of_ble_eq_true rfl⟩) hP hS (fun H locs hP hS => ?_)
        refine lv_ineg hx hb dL_look_30 ?_
        refine lv_goto (tgt := 43) hx hb dL_look_31 (by decide) ?_
        exact t_L_look_43 C0 (fun x0 x1 x2 x3 x4 x5 x6 => f_L_look_6 n x0 x1 x2 x3 x4 x5 x6) ih x0 x1 x2 x3 x4 x5 x6 (-t4) _ _ _ hP hD hS hl hrun
set_option maxHeartbeats 4000000 in
set_option maxRecDepth 100000 in
theorem c_L_look {l : Launch} {G : k_G} {sz : Nat} {p0 : Int32} {p1 : Int32} {p2 : Int32} {p3 : Int32} {p4 : Int32} {out : Int32} (hrun : f_L_look p0 p1 p2 p3 p4 = some out) : k_Ci l G yL_look wsL_look rm_L_look [.int p0, .int p1, .int p2, .int p3, .int p4] [] sz out (fun (_ : Unit) => []) 0 0 := by
  refine k_of (cc := cL_look) (nL := 8) (ret := some .int) (own := RL) (nm := "look") (by decide) rfl rfl rfl rfl ?_
  intro p e s m args below meth c ls hsz C0 hP hD hS hl
  have hl : lv_has ls 8 [(0, .int p0), (1, .int p1), (2, .int p2), (3, .int p3), (4, .int p4)] := hl
  generalize hH : s.heap = H at hP
  have hS : va_S (va_A [] sz) s.heap H [] := by rw [← hH]; exact hS
  clear hH
  generalize va_A [] sz = A at C0 hD hS ⊢
  have hx := C0.1
  have hb := C0.2.1
  have hts := C0.2.2.2.1
  have hown := C0.2.2.2.2.1
  have hK := C0.2.2.2.2.2.2.2.2.1.1
  have hNW := C0.2.2.2.2.2.2.2.2.1.2.1
  have hSF := C0.2.2.2.2.2.2.2.2.1.2.2
  rw [f_L_look] at hrun
  refine lv_iconst (v := 0) hx hb dL_look_0 (by decide) ?_
  refine lv_istore (lv' := [(5, .int (0 : Int32)), (0, .int p0), (1, .int p1), (2, .int p2), (3, .int p3), (4, .int p4)]) hx hb dL_look_1 hl (by decide) rfl (fun ls hl => ?_)
  refine lv_iconst (v := 0) hx hb dL_look_3 (by decide) ?_
  refine lv_istore (lv' := [(6, .int (0 : Int32)), (5, .int (0 : Int32)), (0, .int p0), (1, .int p1), (2, .int p2), (3, .int p3), (4, .int p4)]) hx hb dL_look_4 hl (by decide) rfl (fun ls hl => ?_)
  exact t_L_look_6 C0 kFU p0 p1 p2 p3 p4 (0 : Int32) (0 : Int32) _ _ _ hP hD hS (lv_sub hl [2, 3, 4, 5, 6, 1, 0] rfl) hrun
abbrev rm_L_energy : Room := { frames := 1, cells := 0, slots := 0, locals := 22 }
theorem e_L_energy : yL_energy.cls = RL ∧ yL_energy.cls ≠ "java/lang/invoke/MethodHandle" ∧ yL_energy.cls ≠ "java/lang/invoke/VarHandle" ∧ (parseMethodDescriptor yL_energy.desc).map (fun d => d.parameters.length) = some 3 := by decide +kernel
set_option maxHeartbeats 4000000 in
set_option maxRecDepth 100000 in
theorem t_L_energy_57 {l : Launch} {G : k_G} {p : Program} {e : Env} {s : State} {m : MethodId} {args : Array Value} {below : List Frame} {meth : Method} {c : Code} {A : Nat → Prop} {h_a0 : Nat} {out : Int32} (C0 : k_C G p s m args meth c A cL_energy RL wsL_energy 6 (some .int) "energy") (k5 : Int32 → Int32 → Int32 → Int32 → (Nat → Int32) → Option (Int32)) (hk5 : ∀ (x1 : Int32) (x2 : Int32) (x3 : Int32) (x4 : Int32) (w_a0 : Nat → Int32) (H : Heap) (locs : List Loc) (ls : Array Slot), va_P G.1 vwCl [(h_a0, .inl (k_cI G, 21, .inl w_a0))] H → va_D A [(h_a0, .inl (k_cI G, 21, .inl w_a0))] → va_S A s.heap H locs → lv_has ls 6 [(0, .ref h_a0), (1, .int x1), (2, .int x2), (3, .int x3), (4, .int x4)] → k5 x1 x2 x3 x4 w_a0 = some out → W p l e rm_L_energy s m args below meth c H locs 0 0 (MQ below (k_Qi G A out (fun (_ : Unit) => [(h_a0, .inl (k_cI G, 21, .inl w_a0))])) args s 0 0 A) (F0 m 5 ls [])) (k14 : Int32 → Int32 → Int32 → Int32 → Int32 → (Nat → Int32) → Option (Int32)) (hk14 : ∀ (x1 : Int32) (x2 : Int32) (x3 : Int32) (x4 : Int32) (x5 : Int32) (w_a0 : Nat → Int32) (H : Heap) (locs : List Loc) (ls : Array Slot), va_P G.1 vwCl [(h_a0, .inl (k_cI G, 21, .inl w_a0))] H → va_D A [(h_a0, .inl (k_cI G, 21, .inl w_a0))] → va_S A s.heap H locs → lv_has ls 6 [(0, .ref h_a0), (1, .int x1), (2, .int x2), (3, .int x3), (4, .int x4), (5, .int x5)] → k14 x1 x2 x3 x4 x5 w_a0 = some out → W p l e rm_L_energy s m args below meth c H locs 0 0 (MQ below (k_Qi G A out (fun (_ : Unit) => [(h_a0, .inl (k_cI G, 21, .inl w_a0))])) args s 0 0 A) (F0 m 14 ls [])) : ∀ (x1 : Int32) (x2 : Int32) (x4 : Int32) (x5 : Int32) (s0 : Int32) (s1 : Int32) (w_a0 : Nat → Int32) (H : Heap) (locs : List Loc) (ls : Array Slot), va_P G.1 vwCl [(h_a0, .inl (k_cI G, 21, .inl w_a0))] H → va_D A [(h_a0, .inl (k_cI G, 21, .inl w_a0))] → va_S A s.heap H locs → lv_has ls 6 [(0, .ref h_a0), (1, .int x1), (2, .int x2), (4, .int x4), (5, .int x5)] → f_L_energy_57 k5 k14 x1 x2 x4 x5 s0 s1 w_a0 = some out → W p l e rm_L_energy s m args below meth c H locs 0 0 (MQ below (k_Qi G A out (fun (_ : Unit) => [(h_a0, .inl (k_cI G, 21, .inl w_a0))])) args s 0 0 A) (F0 m 57 ls [.int s1, .int s0]) := by
  have hx := C0.1
  have hb := C0.2.1
  have hts := C0.2.2.2.1
  have hown := C0.2.2.2.2.1
  have hK := C0.2.2.2.2.2.2.2.2.1.1
  have hNW := C0.2.2.2.2.2.2.2.2.1.2.1
  have hSF := C0.2.2.2.2.2.2.2.2.1.2.2
  intro x1 x2 x4 x5 s0 s1 w_a0 H locs ls hP hD hS hl hrun
  rw [f_L_energy_57] at hrun
  refine lv_iadd hx hb dL_energy_57 ?_
  obtain ⟨n1, en, hrun⟩ := lt_inv hrun
  refine k_nmi en ?_
  clear en
  refine lv_istore_n (lv' := [(3, .int n1), (0, .ref h_a0), (1, .int x1), (2, .int x2), (4, .int x4), (5, .int x5)]) hx hb dL_energy_58 rfl hl (by decide) rfl (fun ls hl => ?_)
  refine lv_iinc (v := x5 + 1) (lv' := [(5, .int (x5 + 1)), (3, .int n1), (0, .ref h_a0), (1, .int x1), (2, .int x2), (4, .int x4)]) hx hb dL_energy_59 hl (k := 5) rfl rfl (by decide) rfl (fun ls hl => ?_)
  refine lv_goto (tgt := 14) hx hb dL_energy_62 (by decide) ?_
  exact hk14 x1 x2 n1 x4 (x5 + 1) w_a0 _ _ _ hP hD hS (lv_sub hl [2, 3, 4, 1, 5, 0] rfl) hrun
set_option maxHeartbeats 4000000 in
set_option maxRecDepth 100000 in
theorem t_L_energy_14 {l : Launch} {G : k_G} {p : Program} {e : Env} {s : State} {m : MethodId} {args : Array Value} {below : List Frame} {meth : Method} {c : Code} {A : Nat → Prop} {h_a0 : Nat} {out : Int32} (C0 : k_C G p s m args meth c A cL_energy RL wsL_energy 6 (some .int) "energy") (k5 : Int32 → Int32 → Int32 → Int32 → (Nat → Int32) → Option (Int32)) (hk5 : ∀ (x1 : Int32) (x2 : Int32) (x3 : Int32) (x4 : Int32) (w_a0 : Nat → Int32) (H : Heap) (locs : List Loc) (ls : Array Slot), va_P G.1 vwCl [(h_a0, .inl (k_cI G, 21, .inl w_a0))] H → va_D A [(h_a0, .inl (k_cI G, 21, .inl w_a0))] → va_S A s.heap H locs → lv_has ls 6 [(0, .ref h_a0), (1, .int x1), (2, .int x2), (3, .int x3), (4, .int x4)] → k5 x1 x2 x3 x4 w_a0 = some out → W p l e rm_L_energy s m args below meth c H locs 0 0 (MQ below (k_Qi G A out (fun (_ : Unit) => [(h_a0, .inl (k_cI G, 21, .inl w_a0))])) args s 0 0 A) (F0 m 5 ls [])) : ∀ (n : Nat) (x1 : Int32) (x2 : Int32) (x3 : Int32) (x4 : Int32) (x5 : Int32) (w_a0 : Nat → Int32) (H : Heap) (locs : List Loc) (ls : Array Slot), va_P G.1 vwCl [(h_a0, .inl (k_cI G, 21, .inl w_a0))] H → va_D A [(h_a0, .inl (k_cI G, 21, .inl w_a0))] → va_S A s.heap H locs → lv_has ls 6 [(0, .ref h_a0), (1, .int x1), (2, .int x2), (3, .int x3), (4, .int x4), (5, .int x5)] → f_L_energy_14 k5 n x1 x2 x3 x4 x5 w_a0 = some out → W p l e rm_L_energy s m args below meth c H locs 0 0 (MQ below (k_Qi G A out (fun (_ : Unit) => [(h_a0, .inl (k_cI G, 21, .inl w_a0))])) args s 0 0 A) (F0 m 14 ls []) := by
  have hx := C0.1
  have hb := C0.2.1
  have hts := C0.2.2.2.1
  have hown := C0.2.2.2.2.1
  have hK := C0.2.2.2.2.2.2.2.2.1.1
  have hNW := C0.2.2.2.2.2.2.2.2.1.2.1
  have hSF := C0.2.2.2.2.2.2.2.2.1.2.2
  intro n
  induction n with
  | zero =>
    intro x1 x2 x3 x4 x5 w_a0 H locs ls hP hD hS hl hrun
    rw [f_L_energy_14] at hrun
    cases hrun
  | succ n ih =>
    intro x1 x2 x3 x4 x5 w_a0 H locs ls hP hD hS hl hrun
    rw [f_L_energy_14] at hrun
    refine lv_iload hx hb dL_energy_14 (lv_at hl 5 rfl) ?_
    refine lv_iload_n hx hb dL_energy_16 rfl (lv_at hl 1 rfl) ?_
    refine lv_icmp_ge (tgt := 65) hx hb dL_energy_17 (by decide) (fun q1 => ?_) (fun q1 => ?_)
    · replace hrun := if_t q1 hrun
      refine lv_iinc (v := x4 + 1) (lv' := [(4, .int (x4 + 1)), (0, .ref h_a0), (1, .int x1), (2, .int x2), (3, .int x3), (5, .int x5)]) hx hb dL_energy_65 hl (k := 4) rfl rfl (by decide) rfl (fun ls hl => ?_)
      refine lv_goto (tgt := 5) hx hb dL_energy_68 (by decide) ?_
      exact hk5 x1 x2 x3 (x4 + 1) w_a0 _ _ _ hP hD hS (lv_sub hl [1, 2, 3, 4, 0] rfl) hrun
    · replace hrun := if_f q1 hrun
      refine lv_iload_n hx hb dL_energy_20 rfl (lv_at hl 3 rfl) ?_
      refine lv_iload_n hx hb dL_energy_21 rfl (lv_at hl 1 rfl) ?_
      refine lv_iload_n hx hb dL_energy_22 rfl (lv_at hl 2 rfl) ?_
      refine lv_iload hx hb dL_energy_23 (lv_at hl 5 rfl) ?_
      obtain ⟨t2, et2, hrun⟩ := bd_inv hrun
      refine k_calli0 C0 (k_runS (rest := [.int x3]) C0 (c_L_step et2) (va_cwS 3 hts gL_energy_L_step rfl rfl rfl e_L_step.2 ⟨Nat.le_of_ble_eq_true rfl, Nat.le_of_ble_eq_true rfl⟩) hP hD hS [] rfl (by decide) rfl hl.1 rfl (Nat.le_of_ble_eq_true rfl) dL_energy_25 ⟨Nat.le_of_ble_eq_true rfl, Nat.le_of_ble_eq_true rfl⟩) hP hS (fun H locs hP hS => ?_)
      refine lv_iload_n hx hb dL_energy_28 rfl (lv_at hl 1 rfl) ?_
      refine lv_iload_n hx hb dL_energy_29 rfl (lv_at hl 2 rfl) ?_
      refine lv_iload hx hb dL_energy_30 (lv_at hl 5 rfl) ?_
      refine lv_iload hx hb dL_energy_32 (lv_at hl 4 rfl) ?_
      refine lv_iadd hx hb dL_energy_34 ?_
      obtain ⟨t3, et3, hrun⟩ := bd_inv hrun
      refine k_calli0 C0 (k_runS (rest := [.int t2, .int x3]) C0 (c_L_step et3) (va_cwS 3 hts gL_energy_L_step rfl rfl rfl e_L_step.2 ⟨Nat.le_of_ble_eq_true rfl, Nat.le_of_ble_eq_true rfl⟩) hP hD hS [] rfl (by decide) rfl hl.1 rfl (Nat.le_of_ble_eq_true rfl) dL_energy_35 ⟨Nat.le_of_ble_eq_true rfl, Nat.le_of_ble_eq_true rfl⟩) hP hS (fun H locs hP hS => ?_)
      refine lv_icmp_ne (tgt := 51) hx hb dL_energy_38 (by decide) (fun q4 => ?_) (fun q4 => ?_)
      · replace hrun := if_f q4 hrun
        refine lv_aload_n hx hb dL_energy_51 rfl (lv_at hl 0 rfl) ?_
        refine lv_iload hx hb dL_energy_52 (lv_at hl 4 rfl) ?_
        refine lv_iconst (v := 1) hx hb dL_energy_54 (by decide) ?_
        refine lv_isub hx hb dL_energy_55 ?_
        obtain ⟨gz5, hrun⟩ := gd_inv hrun
        refine va_iald hx hb hK hP 0 1 rfl rfl gz5 dL_energy_56 ?_
        exact t_L_energy_57 C0 k5 hk5 (fun x1 x2 x3 x4 x5 w_a0 => f_L_energy_14 k5 n x1 x2 x3 x4 x5 w_a0) ih x1 x2 x4 x5 x3 (w_a0 (x4 - (1 : Int32)).toNatClampNeg) w_a0 _ _ _ hP hD hS (lv_sub hl [0, 1, 2, 4, 5] rfl) hrun
      · replace hrun := if_t q4 hrun
        refine lv_aload_n hx hb dL_energy_41 rfl (lv_at hl 0 rfl) ?_
        refine lv_iload hx hb dL_energy_42 (lv_at hl 4 rfl) ?_
        refine lv_iconst (v := 1) hx hb dL_energy_44 (by decide) ?_
        refine lv_isub hx hb dL_energy_45 ?_
        obtain ⟨gz6, hrun⟩ := gd_inv hrun
        refine va_iald hx hb hK hP 0 1 rfl rfl gz6 dL_energy_46 ?_
        refine lv_ineg hx hb dL_energy_47 ?_
        refine lv_goto (tgt := 57) hx hb dL_energy_48 (by decide) ?_
        exact t_L_energy_57 C0 k5 hk5 (fun x1 x2 x3 x4 x5 w_a0 => f_L_energy_14 k5 n x1 x2 x3 x4 x5 w_a0) ih x1 x2 x4 x5 x3 (-(w_a0 (x4 - (1 : Int32)).toNatClampNeg)) w_a0 _ _ _ hP hD hS (lv_sub hl [0, 1, 2, 4, 5] rfl) hrun
set_option maxHeartbeats 4000000 in
set_option maxRecDepth 100000 in
theorem t_L_energy_5 {l : Launch} {G : k_G} {p : Program} {e : Env} {s : State} {m : MethodId} {args : Array Value} {below : List Frame} {meth : Method} {c : Code} {A : Nat → Prop} {h_a0 : Nat} {out : Int32} (C0 : k_C G p s m args meth c A cL_energy RL wsL_energy 6 (some .int) "energy") : ∀ (n : Nat) (x1 : Int32) (x2 : Int32) (x3 : Int32) (x4 : Int32) (w_a0 : Nat → Int32) (H : Heap) (locs : List Loc) (ls : Array Slot), va_P G.1 vwCl [(h_a0, .inl (k_cI G, 21, .inl w_a0))] H → va_D A [(h_a0, .inl (k_cI G, 21, .inl w_a0))] → va_S A s.heap H locs → lv_has ls 6 [(0, .ref h_a0), (1, .int x1), (2, .int x2), (3, .int x3), (4, .int x4)] → f_L_energy_5 n x1 x2 x3 x4 w_a0 = some out → W p l e rm_L_energy s m args below meth c H locs 0 0 (MQ below (k_Qi G A out (fun (_ : Unit) => [(h_a0, .inl (k_cI G, 21, .inl w_a0))])) args s 0 0 A) (F0 m 5 ls []) := by
  have hx := C0.1
  have hb := C0.2.1
  have hts := C0.2.2.2.1
  have hown := C0.2.2.2.2.1
  have hK := C0.2.2.2.2.2.2.2.2.1.1
  have hNW := C0.2.2.2.2.2.2.2.2.1.2.1
  have hSF := C0.2.2.2.2.2.2.2.2.1.2.2
  intro n
  induction n with
  | zero =>
    intro x1 x2 x3 x4 w_a0 H locs ls hP hD hS hl hrun
    rw [f_L_energy_5] at hrun
    cases hrun
  | succ n ih =>
    intro x1 x2 x3 x4 w_a0 H locs ls hP hD hS hl hrun
    rw [f_L_energy_5] at hrun
    refine lv_iload hx hb dL_energy_5 (lv_at hl 4 rfl) ?_
    refine lv_iconst (v := 4) hx hb dL_energy_7 (by decide) ?_
    refine lv_icmp_ge (tgt := 71) hx hb dL_energy_8 (by decide) (fun q1 => ?_) (fun q1 => ?_)
    · replace hrun := if_t q1 hrun
      refine lv_iload_n hx hb dL_energy_71 rfl (lv_at hl 3 rfl) ?_
      obtain rfl := Option.some.inj hrun
      exact k_reti C0 hP hD hS () rfl rfl dL_energy_72
    · replace hrun := if_f q1 hrun
      refine lv_iconst (v := 0) hx hb dL_energy_11 (by decide) ?_
      refine lv_istore (lv' := [(5, .int (0 : Int32)), (0, .ref h_a0), (1, .int x1), (2, .int x2), (3, .int x3), (4, .int x4)]) hx hb dL_energy_12 hl (by decide) rfl (fun ls hl => ?_)
      exact t_L_energy_14 C0 (fun x1 x2 x3 x4 w_a0 => f_L_energy_5 n x1 x2 x3 x4 w_a0) ih kFU x1 x2 x3 x4 (0 : Int32) w_a0 _ _ _ hP hD hS (lv_sub hl [1, 2, 3, 4, 5, 0] rfl) hrun
set_option maxHeartbeats 4000000 in
set_option maxRecDepth 100000 in
theorem c_L_energy {l : Launch} {G : k_G} {h_a0 : Nat} {sz : Nat} {p1 : Int32} {p2 : Int32} {w_a0 : Nat → Int32} {out : Int32} (hrun : f_L_energy p1 p2 w_a0 = some out) : k_Ci l G yL_energy wsL_energy rm_L_energy [.ref h_a0, .int p1, .int p2] [(h_a0, .inl (k_cI G, 21, .inl w_a0))] sz out (fun (_ : Unit) => [(h_a0, .inl (k_cI G, 21, .inl w_a0))]) 0 0 := by
  refine k_of (cc := cL_energy) (nL := 6) (ret := some .int) (own := RL) (nm := "energy") (by decide) rfl rfl rfl rfl ?_
  intro p e s m args below meth c ls hsz C0 hP hD hS hl
  have hl : lv_has ls 6 [(0, .ref h_a0), (1, .int p1), (2, .int p2)] := hl
  generalize hH : s.heap = H at hP
  have hS : va_S (va_A [(h_a0, .inl (k_cI G, 21, .inl w_a0))] sz) s.heap H [] := by rw [← hH]; exact hS
  clear hH
  generalize va_A [(h_a0, .inl (k_cI G, 21, .inl w_a0))] sz = A at C0 hD hS ⊢
  have hx := C0.1
  have hb := C0.2.1
  have hts := C0.2.2.2.1
  have hown := C0.2.2.2.2.1
  have hK := C0.2.2.2.2.2.2.2.2.1.1
  have hNW := C0.2.2.2.2.2.2.2.2.1.2.1
  have hSF := C0.2.2.2.2.2.2.2.2.1.2.2
  rw [f_L_energy] at hrun
  refine lv_iconst (v := 0) hx hb dL_energy_0 (by decide) ?_
  refine lv_istore_n (lv' := [(3, .int (0 : Int32)), (0, .ref h_a0), (1, .int p1), (2, .int p2)]) hx hb dL_energy_1 rfl hl (by decide) rfl (fun ls hl => ?_)
  refine lv_iconst (v := 1) hx hb dL_energy_2 (by decide) ?_
  refine lv_istore (lv' := [(4, .int (1 : Int32)), (3, .int (0 : Int32)), (0, .ref h_a0), (1, .int p1), (2, .int p2)]) hx hb dL_energy_3 hl (by decide) rfl (fun ls hl => ?_)
  exact t_L_energy_5 C0 kFU p1 p2 (0 : Int32) (1 : Int32) w_a0 _ _ _ hP hD hS (lv_sub hl [2, 3, 4, 1, 0] rfl) hrun
theorem cd_L_energy {l : Launch} {G : k_G} {h_a0 : Nat} {p1 : Int32} {p2 : Int32} {w_a0 : Nat → Int32} {out : Int32} (hrun : f_L_energy p1 p2 w_a0 = some out) (sz : Nat) : k_Di l G yL_energy wsL_energy rm_L_energy [.ref h_a0, .int p1, .int p2] [(h_a0, .inl (k_cI G, 21, .inl w_a0))] sz out (fun u9 => u9 = [(h_a0, .inl (k_cI G, 21, .inl w_a0))]) 0 0 := k_framei (c_L_energy hrun) [0] rfl (by decide) (fun _ => Nat.le_of_ble_eq_true rfl) (fun _ => rfl)
abbrev rm_L_flush : Room := { frames := 2, cells := 0, slots := 0, locals := 47 }
theorem e_L_flush : yL_flush.cls = RL ∧ yL_flush.cls ≠ "java/lang/invoke/MethodHandle" ∧ yL_flush.cls ≠ "java/lang/invoke/VarHandle" ∧ (parseMethodDescriptor yL_flush.desc).map (fun d => d.parameters.length) = some 2 := by decide +kernel
set_option maxHeartbeats 4000000 in
set_option maxRecDepth 100000 in
theorem c_L_flush {l : Launch} {G : k_G} {h_a1 h_o : Nat} {w_a1 : Nat → Int32} {σ : k_SB} {w : va_W} {out : (Nat → Int32) × k_SB} (hXW : XW G h_o σ w) (hrun : f_L_flush w_a1 σ = some out) (sz : Nat) : k_Dv l G yL_flush wsL_flush rm_L_flush [.ref h_o, .ref h_a1] ([(h_a1, .inl (k_cI G, 7, .inl w_a1))] ++ w) sz (fun u9 : va_W => ∃ w9, u9 = [(h_a1, .inl (k_cI G, 7, .inl out.1))] ++ w9 ∧ XW G h_o out.2 w9) 0 0 := by
  refine k_of (cc := cL_flush) (nL := 3) (ret := none) (own := RL) (nm := "flush") (by decide) rfl rfl rfl rfl ?_
  intro p e s m args below meth c ls hsz C0 hP hD hS hl
  have hl : lv_has ls 3 [(0, .ref h_o), (1, .ref h_a1)] := hl
  generalize hH : s.heap = H at hP
  have hS : va_S (va_A ([(h_a1, .inl (k_cI G, 7, .inl w_a1))] ++ w) sz) s.heap H [] := by rw [← hH]; exact hS
  clear hH
  generalize va_A ([(h_a1, .inl (k_cI G, 7, .inl w_a1))] ++ w) sz = A at C0 hD hS ⊢
  have hx := C0.1
  have hb := C0.2.1
  have hts := C0.2.2.2.1
  have hown := C0.2.2.2.2.1
  have hK := C0.2.2.2.2.2.2.2.2.1.1
  have hNW := C0.2.2.2.2.2.2.2.2.1.2.1
  have hSF := C0.2.2.2.2.2.2.2.2.1.2.2
  rw [f_L_flush] at hrun
  refine lv_aload_n hx hb dL_flush_0 rfl (lv_at hl 0 rfl) ?_
  refine lv_aload_n hx hb dL_flush_1 rfl (lv_at hl 1 rfl) ?_
  refine lv_iconst (v := 0) hx hb dL_flush_2 (by decide) ?_
  obtain ⟨gz1, hrun⟩ := gd_inv hrun
  refine va_iald hx hb hK hP 0 1 rfl rfl gz1 dL_flush_3 ?_
  refine lv_aload_n hx hb dL_flush_4 rfl (lv_at hl 1 rfl) ?_
  refine lv_iconst (v := 1) hx hb dL_flush_5 (by decide) ?_
  obtain ⟨gz2, hrun⟩ := gd_inv hrun
  refine va_iald hx hb hK hP 0 1 rfl rfl gz2 dL_flush_6 ?_
  refine lv_aload_n hx hb dL_flush_7 rfl (lv_at hl 1 rfl) ?_
  refine lv_iconst (v := 2) hx hb dL_flush_8 (by decide) ?_
  obtain ⟨gz3, hrun⟩ := gd_inv hrun
  refine va_iald hx hb hK hP 0 1 rfl rfl gz3 dL_flush_9 ?_
  refine lv_aload_n hx hb dL_flush_10 rfl (lv_at hl 1 rfl) ?_
  refine lv_iconst (v := 3) hx hb dL_flush_11 (by decide) ?_
  obtain ⟨gz4, hrun⟩ := gd_inv hrun
  refine va_iald hx hb hK hP 0 1 rfl rfl gz4 dL_flush_12 ?_
  refine lv_aload_n hx hb dL_flush_13 rfl (lv_at hl 1 rfl) ?_
  refine lv_iconst (v := 4) hx hb dL_flush_14 (by decide) ?_
  obtain ⟨gz5, hrun⟩ := gd_inv hrun
  refine va_iald hx hb hK hP 0 1 rfl rfl gz5 dL_flush_15 ?_
  obtain ⟨t6, et6, hrun⟩ := bd_inv hrun
  obtain ⟨σ7, eσ7, hrun⟩ := lt_inv hrun
  obtain ⟨fs9, he9⟩ := XW_head hXW
  refine lw_callVi (wr := [(h_a1, .inl (k_cI G, 7, .inl w_a1))]) (rest := []) C0 (lx_feed hXW et6 H.size) (cwV 5 hts gL_flush_X11_feed rfl rfl rfl e_X11_feed ⟨Nat.le_of_ble_eq_true rfl, Nat.le_of_ble_eq_true rfl⟩) hP hD hS rfl rfl he9 rfl hl.1 rfl (Nat.le_of_ble_eq_true rfl) dL_flush_16 ⟨Nat.le_of_ble_eq_true rfl, Nat.le_of_ble_eq_true rfl⟩ (fun w8 H locs hXW hP hD hS => ?_)
  replace hXW : XW G h_o σ7 w8 := by rw [eσ7]; exact hXW
  clear et6 eσ7 he9
  refine lv_istore_n (lv' := [(2, .int t6.1), (0, .ref h_o), (1, .ref h_a1)]) hx hb dL_flush_19 rfl hl (by decide) rfl (fun ls hl => ?_)
  refine lv_aload_n hx hb dL_flush_20 rfl (lv_at hl 2 rfl) ?_
  refine lv_iconst (v := 5) hx hb dL_flush_21 (by decide) ?_
  refine lv_iconst (v := 0) hx hb dL_flush_22 (by decide) ?_
  obtain ⟨gz9, hrun⟩ := gd_inv hrun
  obtain ⟨w10, ew, hrun⟩ := lt_inv hrun
  refine va_iast hx hb hK hP hD hS 0 1 rfl rfl gz9 dL_flush_23 (fun H locs hP hD hS => ?_)
  have hP : va_P G.1 vwCl ([(h_a1, .inl (k_cI G, 7, .inl w10))] ++ w8) H := by rw [ew]; exact hP
  have hD : va_D A ([(h_a1, .inl (k_cI G, 7, .inl w10))] ++ w8) := by rw [ew]; exact hD
  clear ew
  obtain rfl := Option.some.inj hrun
  exact kd_retv C0 hP hD hS ⟨w8, rfl, hXW⟩ dL_flush_24
abbrev rm_L_put : Room := { frames := 3, cells := 0, slots := 0, locals := 69 }
theorem e_L_put : yL_put.cls = RL ∧ yL_put.cls ≠ "java/lang/invoke/MethodHandle" ∧ yL_put.cls ≠ "java/lang/invoke/VarHandle" ∧ (parseMethodDescriptor yL_put.desc).map (fun d => d.parameters.length) = some 3 := by decide +kernel
set_option maxHeartbeats 4000000 in
set_option maxRecDepth 100000 in
theorem c_L_put {l : Launch} {G : k_G} {h_a1 h_o : Nat} {p2 : Int32} {w_a1 : Nat → Int32} {σ : k_SB} {w : va_W} {out : (Nat → Int32) × k_SB} (hXW : XW G h_o σ w) (hrun : f_L_put p2 w_a1 σ = some out) (sz : Nat) : k_Dv l G yL_put wsL_put rm_L_put [.ref h_o, .ref h_a1, .int p2] ([(h_a1, .inl (k_cI G, 7, .inl w_a1))] ++ w) sz (fun u9 : va_W => ∃ w9, u9 = [(h_a1, .inl (k_cI G, 7, .inl out.1))] ++ w9 ∧ XW G h_o out.2 w9) 0 0 := by
  refine k_of (cc := cL_put) (nL := 4) (ret := none) (own := RL) (nm := "put") (by decide) rfl rfl rfl rfl ?_
  intro p e s m args below meth c ls hsz C0 hP hD hS hl
  have hl : lv_has ls 4 [(0, .ref h_o), (1, .ref h_a1), (2, .int p2)] := hl
  generalize hH : s.heap = H at hP
  have hS : va_S (va_A ([(h_a1, .inl (k_cI G, 7, .inl w_a1))] ++ w) sz) s.heap H [] := by rw [← hH]; exact hS
  clear hH
  generalize va_A ([(h_a1, .inl (k_cI G, 7, .inl w_a1))] ++ w) sz = A at C0 hD hS ⊢
  have hx := C0.1
  have hb := C0.2.1
  have hts := C0.2.2.2.1
  have hown := C0.2.2.2.2.1
  have hK := C0.2.2.2.2.2.2.2.2.1.1
  have hNW := C0.2.2.2.2.2.2.2.2.1.2.1
  have hSF := C0.2.2.2.2.2.2.2.2.1.2.2
  rw [f_L_put] at hrun
  refine lv_aload_n hx hb dL_put_0 rfl (lv_at hl 1 rfl) ?_
  refine lv_iconst (v := 5) hx hb dL_put_1 (by decide) ?_
  obtain ⟨gz1, hrun⟩ := gd_inv hrun
  refine va_iald hx hb hK hP 0 1 rfl rfl gz1 dL_put_2 ?_
  obtain ⟨n2, en, hrun⟩ := lt_inv hrun
  refine k_nmi en ?_
  clear en
  refine lv_istore_n (lv' := [(3, .int n2), (0, .ref h_o), (1, .ref h_a1), (2, .int p2)]) hx hb dL_put_3 rfl hl (by decide) rfl (fun ls hl => ?_)
  refine lv_aload_n hx hb dL_put_4 rfl (lv_at hl 2 rfl) ?_
  refine lv_iload_n hx hb dL_put_5 rfl (lv_at hl 0 rfl) ?_
  refine lv_iconst (v := 4) hx hb dL_put_6 (by decide) ?_
  refine lv_idiv hx hb dL_put_7 (by decide) ?_
  refine lv_aload_n hx hb dL_put_8 rfl (lv_at hl 2 rfl) ?_
  refine lv_iload_n hx hb dL_put_9 rfl (lv_at hl 0 rfl) ?_
  refine lv_iconst (v := 4) hx hb dL_put_10 (by decide) ?_
  refine lv_idiv hx hb dL_put_11 (by decide) ?_
  obtain ⟨gz3, hrun⟩ := gd_inv hrun
  refine va_iald hx hb hK hP 0 1 rfl rfl gz3 dL_put_12 ?_
  refine lv_bipush (v := 8) hx hb dL_put_13 (by decide) ?_
  refine lv_ishl hx hb dL_put_15 ?_
  refine lv_iload_n hx hb dL_put_16 rfl (lv_at hl 3 rfl) ?_
  refine lv_ior hx hb dL_put_17 ?_
  obtain ⟨n4, en, hrun⟩ := lt_inv hrun
  refine k_nmi en ?_
  clear en
  obtain ⟨gz5, hrun⟩ := gd_inv hrun
  obtain ⟨w6, ew, hrun⟩ := lt_inv hrun
  refine va_iast hx hb hK hP hD hS 0 1 rfl rfl gz5 dL_put_18 (fun H locs hP hD hS => ?_)
  have hP : va_P G.1 vwCl ([(h_a1, .inl (k_cI G, 7, .inl w6))] ++ w) H := by rw [ew]; exact hP
  have hD : va_D A ([(h_a1, .inl (k_cI G, 7, .inl w6))] ++ w) := by rw [ew]; exact hD
  clear ew
  refine lv_aload_n hx hb dL_put_19 rfl (lv_at hl 2 rfl) ?_
  refine lv_iconst (v := 5) hx hb dL_put_20 (by decide) ?_
  refine lv_dup2_11 hx hb dL_put_21 rfl rfl ?_
  obtain ⟨gz7, hrun⟩ := gd_inv hrun
  refine va_iald hx hb hK hP 0 1 rfl rfl gz7 dL_put_22 ?_
  refine lv_iconst (v := 1) hx hb dL_put_23 (by decide) ?_
  refine lv_iadd hx hb dL_put_24 ?_
  obtain ⟨n8, en, hrun⟩ := lt_inv hrun
  refine k_nmi en ?_
  clear en
  obtain ⟨gz9, hrun⟩ := gd_inv hrun
  obtain ⟨w10, ew, hrun⟩ := lt_inv hrun
  refine va_iast hx hb hK hP hD hS 0 1 rfl rfl gz9 dL_put_25 (fun H locs hP hD hS => ?_)
  have hP : va_P G.1 vwCl ([(h_a1, .inl (k_cI G, 7, .inl w10))] ++ w) H := by rw [ew]; exact hP
  have hD : va_D A ([(h_a1, .inl (k_cI G, 7, .inl w10))] ++ w) := by rw [ew]; exact hD
  clear ew
  refine lv_aload_n hx hb dL_put_26 rfl (lv_at hl 2 rfl) ?_
  refine lv_bipush (v := 6) hx hb dL_put_27 (by decide) ?_
  refine lv_dup2_11 hx hb dL_put_29 rfl rfl ?_
  obtain ⟨gz11, hrun⟩ := gd_inv hrun
  refine va_iald hx hb hK hP 0 1 rfl rfl gz11 dL_put_30 ?_
  refine lv_iconst (v := 1) hx hb dL_put_31 (by decide) ?_
  refine lv_iadd hx hb dL_put_32 ?_
  obtain ⟨n12, en, hrun⟩ := lt_inv hrun
  refine k_nmi en ?_
  clear en
  obtain ⟨gz13, hrun⟩ := gd_inv hrun
  obtain ⟨w14, ew, hrun⟩ := lt_inv hrun
  refine va_iast hx hb hK hP hD hS 0 1 rfl rfl gz13 dL_put_33 (fun H locs hP hD hS => ?_)
  have hP : va_P G.1 vwCl ([(h_a1, .inl (k_cI G, 7, .inl w14))] ++ w) H := by rw [ew]; exact hP
  have hD : va_D A ([(h_a1, .inl (k_cI G, 7, .inl w14))] ++ w) := by rw [ew]; exact hD
  clear ew
  refine lv_aload_n hx hb dL_put_34 rfl (lv_at hl 2 rfl) ?_
  refine lv_iconst (v := 5) hx hb dL_put_35 (by decide) ?_
  obtain ⟨gz15, hrun⟩ := gd_inv hrun
  refine va_iald hx hb hK hP 0 1 rfl rfl gz15 dL_put_36 ?_
  refine lv_bipush (v := 20) hx hb dL_put_37 (by decide) ?_
  refine lv_icmp_ne (tgt := 47) hx hb dL_put_39 (by decide) (fun q16 => ?_) (fun q16 => ?_)
  · replace hrun := if_f q16 hrun
    obtain rfl := Option.some.inj hrun
    exact kd_retv C0 hP hD hS ⟨w, rfl, hXW⟩ dL_put_47
  · replace hrun := if_t q16 hrun
    refine lv_aload_n hx hb dL_put_42 rfl (lv_at hl 1 rfl) ?_
    refine lv_aload_n hx hb dL_put_43 rfl (lv_at hl 2 rfl) ?_
    obtain ⟨t17, et17, hrun⟩ := bd_inv hrun
    refine lw_callSv (wr := []) (wc := ([(h_a1, .inl (k_cI G, 7, .inl w14))] ++ w)) (rest := []) C0 (c_L_flush hXW et17 H.size) (va_cwS 2 hts gL_put_L_flush rfl rfl rfl e_L_flush.2 ⟨Nat.le_of_ble_eq_true rfl, Nat.le_of_ble_eq_true rfl⟩) hP hD hS rfl hl.1 rfl (Nat.le_of_ble_eq_true rfl) dL_put_44 ⟨Nat.le_of_ble_eq_true rfl, Nat.le_of_ble_eq_true rfl⟩ (fun u9 H locs hu9 hP hD hS => ?_)
    obtain ⟨w18, rfl, hXW⟩ := hu9
    have hP : va_P G.1 vwCl ([(h_a1, .inl (k_cI G, 7, .inl t17.1))] ++ w18) H := hP
    have hD : va_D A ([(h_a1, .inl (k_cI G, 7, .inl t17.1))] ++ w18) := hD
    clear et17
    obtain rfl := Option.some.inj hrun
    exact kd_retv C0 hP hD hS ⟨w18, rfl, hXW⟩ dL_put_47
theorem u_L_say_1 : (Cond.constantLong RL 19 (255)) ∈ wsL_say := List.mem_of_getElem? (i := 1) (by decide +kernel)
abbrev rm_L_say : Room := { frames := 4, cells := 0, slots := 0, locals := 92 }
theorem e_L_say : yL_say.cls = RL ∧ yL_say.cls ≠ "java/lang/invoke/MethodHandle" ∧ yL_say.cls ≠ "java/lang/invoke/VarHandle" ∧ (parseMethodDescriptor yL_say.desc).map (fun d => d.parameters.length) = some 3 := by decide +kernel
set_option maxHeartbeats 4000000 in
set_option maxRecDepth 100000 in
theorem t_L_say_36 {l : Launch} {G : k_G} {p : Program} {e : Env} {s : State} {m : MethodId} {args : Array Value} {below : List Frame} {meth : Method} {c : Code} {A : Nat → Prop} {h_a1 h_o : Nat} {out : (Nat → Int32) × k_SB} (C0 : k_C G p s m args meth c A cL_say RL wsL_say 5 none "say") (k4 : Int64 → Int32 → (Nat → Int32) → k_SB → Option ((Nat → Int32) × k_SB)) (hk4 : ∀ (w : va_W) (x2 : Int64) (x4 : Int32) (w_a1 : Nat → Int32) (σ : k_SB) (H : Heap) (locs : List Loc) (ls : Array Slot), XW G h_o σ w → va_P G.1 vwCl ([(h_a1, .inl (k_cI G, 7, .inl w_a1))] ++ w) H → va_D A ([(h_a1, .inl (k_cI G, 7, .inl w_a1))] ++ w) → va_S A s.heap H locs → lv_has ls 5 [(0, .ref h_o), (1, .ref h_a1), (2, .long x2), (4, .int x4)] → k4 x2 x4 w_a1 σ = some out → W p l e rm_L_say s m args below meth c H locs 0 0 (MQ below (va_Qv (fun (u9 : va_W) => (fun u9 : va_W => ∃ w9, u9 = [(h_a1, .inl (k_cI G, 7, .inl out.1))] ++ w9 ∧ XW G h_o out.2 w9) u9) (fun u9 t => k_PB G A u9 t) A) args s 0 0 A) (F0 m 4 ls [])) : ∀ (w : va_W) (x2 : Int64) (x4 : Int32) (w_a1 : Nat → Int32) (σ : k_SB) (H : Heap) (locs : List Loc) (ls : Array Slot), XW G h_o σ w → va_P G.1 vwCl ([(h_a1, .inl (k_cI G, 7, .inl w_a1))] ++ w) H → va_D A ([(h_a1, .inl (k_cI G, 7, .inl w_a1))] ++ w) → va_S A s.heap H locs → lv_has ls 5 [(0, .ref h_o), (1, .ref h_a1), (2, .long x2), (4, .int x4)] → f_L_say_36 k4 x2 x4 w_a1 σ = some out → W p l e rm_L_say s m args below meth c H locs 0 0 (MQ below (va_Qv (fun (u9 : va_W) => (fun u9 : va_W => ∃ w9, u9 = [(h_a1, .inl (k_cI G, 7, .inl out.1))] ++ w9 ∧ XW G h_o out.2 w9) u9) (fun u9 t => k_PB G A u9 t) A) args s 0 0 A) (F0 m 36 ls []) := by
  have hx := C0.1
  have hb := C0.2.1
  have hts := C0.2.2.2.1
  have hown := C0.2.2.2.2.1
  have hK := C0.2.2.2.2.2.2.2.2.1.1
  have hNW := C0.2.2.2.2.2.2.2.2.1.2.1
  have hSF := C0.2.2.2.2.2.2.2.2.1.2.2
  intro w x2 x4 w_a1 σ H locs ls hXW hP hD hS hl hrun
  rw [f_L_say_36] at hrun
  refine lv_iinc (v := x4 + (-8)) (lv' := [(4, .int (x4 + (-8))), (0, .ref h_o), (1, .ref h_a1), (2, .long x2)]) hx hb dL_say_36 hl (k := 3) rfl rfl (by decide) rfl (fun ls hl => ?_)
  refine lv_goto (tgt := 4) hx hb dL_say_39 (by decide) ?_
  exact hk4 w x2 (x4 + (-8)) w_a1 σ _ _ _ hXW hP hD hS (lv_sub hl [1, 2, 3, 0] rfl) hrun
set_option maxHeartbeats 4000000 in
set_option maxRecDepth 100000 in
theorem t_L_say_4 {l : Launch} {G : k_G} {p : Program} {e : Env} {s : State} {m : MethodId} {args : Array Value} {below : List Frame} {meth : Method} {c : Code} {A : Nat → Prop} {h_a1 h_o : Nat} {out : (Nat → Int32) × k_SB} (C0 : k_C G p s m args meth c A cL_say RL wsL_say 5 none "say") : ∀ (n : Nat) (w : va_W) (x2 : Int64) (x4 : Int32) (w_a1 : Nat → Int32) (σ : k_SB) (H : Heap) (locs : List Loc) (ls : Array Slot), XW G h_o σ w → va_P G.1 vwCl ([(h_a1, .inl (k_cI G, 7, .inl w_a1))] ++ w) H → va_D A ([(h_a1, .inl (k_cI G, 7, .inl w_a1))] ++ w) → va_S A s.heap H locs → lv_has ls 5 [(0, .ref h_o), (1, .ref h_a1), (2, .long x2), (4, .int x4)] → f_L_say_4 n x2 x4 w_a1 σ = some out → W p l e rm_L_say s m args below meth c H locs 0 0 (MQ below (va_Qv (fun (u9 : va_W) => (fun u9 : va_W => ∃ w9, u9 = [(h_a1, .inl (k_cI G, 7, .inl out.1))] ++ w9 ∧ XW G h_o out.2 w9) u9) (fun u9 t => k_PB G A u9 t) A) args s 0 0 A) (F0 m 4 ls []) := by
  have hx := C0.1
  have hb := C0.2.1
  have hts := C0.2.2.2.1
  have hown := C0.2.2.2.2.1
  have hK := C0.2.2.2.2.2.2.2.2.1.1
  have hNW := C0.2.2.2.2.2.2.2.2.1.2.1
  have hSF := C0.2.2.2.2.2.2.2.2.1.2.2
  intro n
  induction n with
  | zero =>
    intro w x2 x4 w_a1 σ H locs ls hXW hP hD hS hl hrun
    rw [f_L_say_4] at hrun
    cases hrun
  | succ n ih =>
    intro w x2 x4 w_a1 σ H locs ls hXW hP hD hS hl hrun
    rw [f_L_say_4] at hrun
    refine lv_iload hx hb dL_say_4 (lv_at hl 3 rfl) ?_
    refine lv_if_lt (tgt := 42) hx hb dL_say_6 (by decide) (fun q1 => ?_) (fun q1 => ?_)
    · replace hrun := if_t q1 hrun
      obtain rfl := Option.some.inj hrun
      exact kd_retv C0 hP hD hS ⟨w, rfl, hXW⟩ dL_say_42
    · replace hrun := if_f q1 hrun
      refine lv_lload_n hx hb dL_say_9 rfl (lv_at hl 2 rfl) ?_
      refine lv_iload hx hb dL_say_10 (lv_at hl 3 rfl) ?_
      refine lv_lshr hx hb dL_say_12 rfl ?_
      refine lv_ldc2 (v := 255) hx hb hown (hts _ u_L_say_1) dL_say_13 ?_
      refine lv_land hx hb dL_say_16 ?_
      refine lv_lconst (v := 0) hx hb dL_say_17 (by decide) ?_
      refine W.lcmp hx hb dL_say_18 ?_
      refine lv_if_eq (tgt := 36) hx hb dL_say_19 (by decide) (fun q2 => ?_) (fun q2 => ?_)
      · replace hrun := if_t q2 hrun
        exact t_L_say_36 C0 (fun x2 x4 w_a1 σ => f_L_say_4 n x2 x4 w_a1 σ) ih w x2 x4 w_a1 σ _ _ _ hXW hP hD hS hl hrun
      · replace hrun := if_f q2 hrun
        refine lv_aload_n hx hb dL_say_22 rfl (lv_at hl 0 rfl) ?_
        refine lv_aload_n hx hb dL_say_23 rfl (lv_at hl 1 rfl) ?_
        refine lv_lload_n hx hb dL_say_24 rfl (lv_at hl 2 rfl) ?_
        refine lv_iload hx hb dL_say_25 (lv_at hl 3 rfl) ?_
        refine lv_lshr hx hb dL_say_27 rfl ?_
        refine lv_ldc2 (v := 255) hx hb hown (hts _ u_L_say_1) dL_say_28 ?_
        refine lv_land hx hb dL_say_31 ?_
        refine lv_l2i hx hb dL_say_32 rfl ?_
        obtain ⟨t3, et3, hrun⟩ := bd_inv hrun
        refine lw_callSv (wr := []) (wc := ([(h_a1, .inl (k_cI G, 7, .inl w_a1))] ++ w)) (rest := []) C0 (c_L_put hXW et3 H.size) (va_cwS 3 hts gL_say_L_put rfl rfl rfl e_L_put.2 ⟨Nat.le_of_ble_eq_true rfl, Nat.le_of_ble_eq_true rfl⟩) hP hD hS rfl hl.1 rfl (Nat.le_of_ble_eq_true rfl) dL_say_33 ⟨Nat.le_of_ble_eq_true rfl, Nat.le_of_ble_eq_true rfl⟩ (fun u9 H locs hu9 hP hD hS => ?_)
        obtain ⟨w4, rfl, hXW⟩ := hu9
        have hP : va_P G.1 vwCl ([(h_a1, .inl (k_cI G, 7, .inl t3.1))] ++ w4) H := hP
        have hD : va_D A ([(h_a1, .inl (k_cI G, 7, .inl t3.1))] ++ w4) := hD
        clear et3
        exact t_L_say_36 C0 (fun x2 x4 w_a1 σ => f_L_say_4 n x2 x4 w_a1 σ) ih w4 x2 x4 t3.1 t3.2 _ _ _ hXW hP hD hS hl hrun
set_option maxHeartbeats 4000000 in
set_option maxRecDepth 100000 in
theorem c_L_say {l : Launch} {G : k_G} {h_a1 h_o : Nat} {p2 : Int64} {w_a1 : Nat → Int32} {σ : k_SB} {w : va_W} {out : (Nat → Int32) × k_SB} (hXW : XW G h_o σ w) (hrun : f_L_say p2 w_a1 σ = some out) (sz : Nat) : k_Dv l G yL_say wsL_say rm_L_say [.ref h_o, .ref h_a1, .long p2] ([(h_a1, .inl (k_cI G, 7, .inl w_a1))] ++ w) sz (fun u9 : va_W => ∃ w9, u9 = [(h_a1, .inl (k_cI G, 7, .inl out.1))] ++ w9 ∧ XW G h_o out.2 w9) 0 0 := by
  refine k_of (cc := cL_say) (nL := 5) (ret := none) (own := RL) (nm := "say") (by decide) rfl rfl rfl rfl ?_
  intro p e s m args below meth c ls hsz C0 hP hD hS hl
  have hl : lv_has ls 5 [(0, .ref h_o), (1, .ref h_a1), (2, .long p2)] := hl
  generalize hH : s.heap = H at hP
  have hS : va_S (va_A ([(h_a1, .inl (k_cI G, 7, .inl w_a1))] ++ w) sz) s.heap H [] := by rw [← hH]; exact hS
  clear hH
  generalize va_A ([(h_a1, .inl (k_cI G, 7, .inl w_a1))] ++ w) sz = A at C0 hD hS ⊢
  have hx := C0.1
  have hb := C0.2.1
  have hts := C0.2.2.2.1
  have hown := C0.2.2.2.2.1
  have hK := C0.2.2.2.2.2.2.2.2.1.1
  have hNW := C0.2.2.2.2.2.2.2.2.1.2.1
  have hSF := C0.2.2.2.2.2.2.2.2.1.2.2
  rw [f_L_say] at hrun
  refine lv_bipush (v := 56) hx hb dL_say_0 (by decide) ?_
  refine lv_istore (lv' := [(4, .int (56 : Int32)), (0, .ref h_o), (1, .ref h_a1), (2, .long p2)]) hx hb dL_say_2 hl (by decide) rfl (fun ls hl => ?_)
  exact t_L_say_4 C0 kFU w p2 (56 : Int32) w_a1 σ _ _ _ hXW hP hD hS (lv_sub hl [1, 2, 3, 0] rfl) hrun
abbrev rm_L_said : Room := { frames := 4, cells := 0, slots := 0, locals := 92 }
theorem e_L_said : yL_said.cls = RL ∧ yL_said.cls ≠ "java/lang/invoke/MethodHandle" ∧ yL_said.cls ≠ "java/lang/invoke/VarHandle" ∧ (parseMethodDescriptor yL_said.desc).map (fun d => d.parameters.length) = some 2 := by decide +kernel
set_option maxHeartbeats 4000000 in
set_option maxRecDepth 100000 in
theorem t_L_said_5 {l : Launch} {G : k_G} {p : Program} {e : Env} {s : State} {m : MethodId} {args : Array Value} {below : List Frame} {meth : Method} {c : Code} {A : Nat → Prop} {h_a1 h_o : Nat} {out : Int32 × (Nat → Int32) × k_SB} (C0 : k_C G p s m args meth c A cL_said RL wsL_said 3 (some .int) "said") : ∀ (n : Nat) (w : va_W) (x2 : Int32) (w_a1 : Nat → Int32) (σ : k_SB) (H : Heap) (locs : List Loc) (ls : Array Slot), XW G h_o σ w → va_P G.1 vwCl ([(h_a1, .inl (k_cI G, 7, .inl w_a1))] ++ w) H → va_D A ([(h_a1, .inl (k_cI G, 7, .inl w_a1))] ++ w) → va_S A s.heap H locs → lv_has ls 3 [(0, .ref h_o), (1, .ref h_a1), (2, .int x2)] → f_L_said_5 n x2 w_a1 σ = some out → W p l e rm_L_said s m args below meth c H locs 0 0 (MQ below (va_Qi (fun r (u9 : va_W) => r = out.1 ∧ (fun u9 : va_W => ∃ w9, u9 = [(h_a1, .inl (k_cI G, 7, .inl out.2.1))] ++ w9 ∧ XW G h_o out.2.2 w9) u9) (fun u9 t => k_PB G A u9 t) A) args s 0 0 A) (F0 m 5 ls []) := by
  have hx := C0.1
  have hb := C0.2.1
  have hts := C0.2.2.2.1
  have hown := C0.2.2.2.2.1
  have hK := C0.2.2.2.2.2.2.2.2.1.1
  have hNW := C0.2.2.2.2.2.2.2.2.1.2.1
  have hSF := C0.2.2.2.2.2.2.2.2.1.2.2
  intro n
  induction n with
  | zero =>
    intro w x2 w_a1 σ H locs ls hXW hP hD hS hl hrun
    rw [f_L_said_5] at hrun
    cases hrun
  | succ n ih =>
    intro w x2 w_a1 σ H locs ls hXW hP hD hS hl hrun
    rw [f_L_said_5] at hrun
    refine lv_aload_n hx hb dL_said_5 rfl (lv_at hl 1 rfl) ?_
    refine lv_iconst (v := 5) hx hb dL_said_6 (by decide) ?_
    obtain ⟨gz1, hrun⟩ := gd_inv hrun
    refine va_iald hx hb hK hP 0 1 rfl rfl gz1 dL_said_7 ?_
    refine lv_if_le (tgt := 21) hx hb dL_said_8 (by decide) (fun q2 => ?_) (fun q2 => ?_)
    · replace hrun := if_t q2 hrun
      refine lv_aload_n hx hb dL_said_21 rfl (lv_at hl 1 rfl) ?_
      refine lv_bipush (v := 6) hx hb dL_said_22 (by decide) ?_
      refine lv_iconst (v := 0) hx hb dL_said_24 (by decide) ?_
      obtain ⟨gz3, hrun⟩ := gd_inv hrun
      obtain ⟨w4, ew, hrun⟩ := lt_inv hrun
      refine va_iast hx hb hK hP hD hS 0 1 rfl rfl gz3 dL_said_25 (fun H locs hP hD hS => ?_)
      have hP : va_P G.1 vwCl ([(h_a1, .inl (k_cI G, 7, .inl w4))] ++ w) H := by rw [ew]; exact hP
      have hD : va_D A ([(h_a1, .inl (k_cI G, 7, .inl w4))] ++ w) := by rw [ew]; exact hD
      clear ew
      refine lv_iload_n hx hb dL_said_26 rfl (lv_at hl 2 rfl) ?_
      obtain rfl := Option.some.inj hrun
      exact kd_reti C0 hP hD hS ⟨w, rfl, hXW⟩ rfl dL_said_27
    · replace hrun := if_f q2 hrun
      refine lv_aload_n hx hb dL_said_11 rfl (lv_at hl 0 rfl) ?_
      refine lv_aload_n hx hb dL_said_12 rfl (lv_at hl 1 rfl) ?_
      refine lv_bipush (v := 32) hx hb dL_said_13 (by decide) ?_
      obtain ⟨t5, et5, hrun⟩ := bd_inv hrun
      refine lw_callSv (wr := []) (wc := ([(h_a1, .inl (k_cI G, 7, .inl w_a1))] ++ w)) (rest := []) C0 (c_L_put hXW et5 H.size) (va_cwS 3 hts gL_said_L_put rfl rfl rfl e_L_put.2 ⟨Nat.le_of_ble_eq_true rfl, Nat.le_of_ble_eq_true rfl⟩) hP hD hS rfl hl.1 rfl (Nat.le_of_ble_eq_true rfl) dL_said_15 ⟨Nat.le_of_ble_eq_true rfl, Nat.le_of_ble_eq_true rfl⟩ (fun u9 H locs hu9 hP hD hS => ?_)
      obtain ⟨w6, rfl, hXW⟩ := hu9
      have hP : va_P G.1 vwCl ([(h_a1, .inl (k_cI G, 7, .inl t5.1))] ++ w6) H := hP
      have hD : va_D A ([(h_a1, .inl (k_cI G, 7, .inl t5.1))] ++ w6) := hD
      clear et5
      refine lv_goto (tgt := 5) hx hb dL_said_18 (by decide) ?_
      exact ih w6 x2 t5.1 t5.2 _ _ _ hXW hP hD hS hl hrun
set_option maxHeartbeats 4000000 in
set_option maxRecDepth 100000 in
theorem c_L_said {l : Launch} {G : k_G} {h_a1 h_o : Nat} {w_a1 : Nat → Int32} {σ : k_SB} {w : va_W} {out : Int32 × (Nat → Int32) × k_SB} (hXW : XW G h_o σ w) (hrun : f_L_said w_a1 σ = some out) (sz : Nat) : k_Di l G yL_said wsL_said rm_L_said [.ref h_o, .ref h_a1] ([(h_a1, .inl (k_cI G, 7, .inl w_a1))] ++ w) sz out.1 (fun u9 : va_W => ∃ w9, u9 = [(h_a1, .inl (k_cI G, 7, .inl out.2.1))] ++ w9 ∧ XW G h_o out.2.2 w9) 0 0 := by
  refine k_of (cc := cL_said) (nL := 3) (ret := some .int) (own := RL) (nm := "said") (by decide) rfl rfl rfl rfl ?_
  intro p e s m args below meth c ls hsz C0 hP hD hS hl
  have hl : lv_has ls 3 [(0, .ref h_o), (1, .ref h_a1)] := hl
  generalize hH : s.heap = H at hP
  have hS : va_S (va_A ([(h_a1, .inl (k_cI G, 7, .inl w_a1))] ++ w) sz) s.heap H [] := by rw [← hH]; exact hS
  clear hH
  generalize va_A ([(h_a1, .inl (k_cI G, 7, .inl w_a1))] ++ w) sz = A at C0 hD hS ⊢
  have hx := C0.1
  have hb := C0.2.1
  have hts := C0.2.2.2.1
  have hown := C0.2.2.2.2.1
  have hK := C0.2.2.2.2.2.2.2.2.1.1
  have hNW := C0.2.2.2.2.2.2.2.2.1.2.1
  have hSF := C0.2.2.2.2.2.2.2.2.1.2.2
  rw [f_L_said] at hrun
  refine lv_aload_n hx hb dL_said_0 rfl (lv_at hl 1 rfl) ?_
  refine lv_bipush (v := 6) hx hb dL_said_1 (by decide) ?_
  obtain ⟨gz1, hrun⟩ := gd_inv hrun
  refine va_iald hx hb hK hP 0 1 rfl rfl gz1 dL_said_3 ?_
  obtain ⟨n2, en, hrun⟩ := lt_inv hrun
  refine k_nmi en ?_
  clear en
  refine lv_istore_n (lv' := [(2, .int n2), (0, .ref h_o), (1, .ref h_a1)]) hx hb dL_said_4 rfl hl (by decide) rfl (fun ls hl => ?_)
  exact t_L_said_5 C0 kFU w n2 w_a1 σ _ _ _ hXW hP hD hS (lv_sub hl [1, 2, 0] rfl) hrun
abbrev rm_L_number : Room := { frames := 4, cells := 0, slots := 0, locals := 92 }
theorem e_L_number : yL_number.cls = RL ∧ yL_number.cls ≠ "java/lang/invoke/MethodHandle" ∧ yL_number.cls ≠ "java/lang/invoke/VarHandle" ∧ (parseMethodDescriptor yL_number.desc).map (fun d => d.parameters.length) = some 3 := by decide +kernel
set_option maxHeartbeats 4000000 in
set_option maxRecDepth 100000 in
theorem t_L_number_49 {l : Launch} {G : k_G} {p : Program} {e : Env} {s : State} {m : MethodId} {args : Array Value} {below : List Frame} {meth : Method} {c : Code} {A : Nat → Prop} {h_a1 h_o : Nat} {out : (Nat → Int32) × k_SB} (C0 : k_C G p s m args meth c A cL_number RL wsL_number 5 none "number") : ∀ (n : Nat) (w : va_W) (x3 : Int32) (x4 : Int32) (w_a1 : Nat → Int32) (σ : k_SB) (H : Heap) (locs : List Loc) (ls : Array Slot), XW G h_o σ w → va_P G.1 vwCl ([(h_a1, .inl (k_cI G, 7, .inl w_a1))] ++ w) H → va_D A ([(h_a1, .inl (k_cI G, 7, .inl w_a1))] ++ w) → va_S A s.heap H locs → lv_has ls 5 [(0, .ref h_o), (1, .ref h_a1), (3, .int x3), (4, .int x4)] → f_L_number_49 n x3 x4 w_a1 σ = some out → W p l e rm_L_number s m args below meth c H locs 0 0 (MQ below (va_Qv (fun (u9 : va_W) => (fun u9 : va_W => ∃ w9, u9 = [(h_a1, .inl (k_cI G, 7, .inl out.1))] ++ w9 ∧ XW G h_o out.2 w9) u9) (fun u9 t => k_PB G A u9 t) A) args s 0 0 A) (F0 m 49 ls []) := by
  have hx := C0.1
  have hb := C0.2.1
  have hts := C0.2.2.2.1
  have hown := C0.2.2.2.2.1
  have hK := C0.2.2.2.2.2.2.2.2.1.1
  have hNW := C0.2.2.2.2.2.2.2.2.1.2.1
  have hSF := C0.2.2.2.2.2.2.2.2.1.2.2
  intro n
  induction n with
  | zero =>
    intro w x3 x4 w_a1 σ H locs ls hXW hP hD hS hl hrun
    rw [f_L_number_49] at hrun
    cases hrun
  | succ n ih =>
    intro w x3 x4 w_a1 σ H locs ls hXW hP hD hS hl hrun
    rw [f_L_number_49] at hrun
    refine lv_iload hx hb dL_number_49 (lv_at hl 3 rfl) ?_
    refine lv_if_le (tgt := 79) hx hb dL_number_51 (by decide) (fun q1 => ?_) (fun q1 => ?_)
    · replace hrun := if_t q1 hrun
      obtain rfl := Option.some.inj hrun
      exact kd_retv C0 hP hD hS ⟨w, rfl, hXW⟩ dL_number_79
    · replace hrun := if_f q1 hrun
      refine lv_aload_n hx hb dL_number_54 rfl (lv_at hl 0 rfl) ?_
      refine lv_aload_n hx hb dL_number_55 rfl (lv_at hl 1 rfl) ?_
      refine lv_bipush (v := 48) hx hb dL_number_56 (by decide) ?_
      refine lv_iload_n hx hb dL_number_58 rfl (lv_at hl 2 rfl) ?_
      refine lv_iload hx hb dL_number_59 (lv_at hl 3 rfl) ?_
      obtain ⟨gz2, hrun⟩ := gd_inv hrun
      refine lv_idiv hx hb dL_number_61 gz2 ?_
      refine lv_bipush (v := 10) hx hb dL_number_62 (by decide) ?_
      refine lv_irem hx hb dL_number_64 (by decide) ?_
      refine lv_iadd hx hb dL_number_65 ?_
      obtain ⟨t3, et3, hrun⟩ := bd_inv hrun
      refine lw_callSv (wr := []) (wc := ([(h_a1, .inl (k_cI G, 7, .inl w_a1))] ++ w)) (rest := []) C0 (c_L_put hXW et3 H.size) (va_cwS 3 hts gL_number_L_put rfl rfl rfl e_L_put.2 ⟨Nat.le_of_ble_eq_true rfl, Nat.le_of_ble_eq_true rfl⟩) hP hD hS rfl hl.1 rfl (Nat.le_of_ble_eq_true rfl) dL_number_66 ⟨Nat.le_of_ble_eq_true rfl, Nat.le_of_ble_eq_true rfl⟩ (fun u9 H locs hu9 hP hD hS => ?_)
      obtain ⟨w4, rfl, hXW⟩ := hu9
      have hP : va_P G.1 vwCl ([(h_a1, .inl (k_cI G, 7, .inl t3.1))] ++ w4) H := hP
      have hD : va_D A ([(h_a1, .inl (k_cI G, 7, .inl t3.1))] ++ w4) := hD
      clear et3
      refine lv_iload hx hb dL_number_69 (lv_at hl 3 rfl) ?_
      refine lv_bipush (v := 10) hx hb dL_number_71 (by decide) ?_
      refine lv_idiv hx hb dL_number_73 (by decide) ?_
      obtain ⟨n5, en, hrun⟩ := lt_inv hrun
      refine k_nmi en ?_
      clear en
      refine lv_istore (lv' := [(4, .int n5), (0, .ref h_o), (1, .ref h_a1), (3, .int x3)]) hx hb dL_number_74 hl (by decide) rfl (fun ls hl => ?_)
      refine lv_goto (tgt := 49) hx hb dL_number_76 (by decide) ?_
      exact ih w4 x3 n5 t3.1 t3.2 _ _ _ hXW hP hD hS (lv_sub hl [1, 2, 3, 0] rfl) hrun
set_option maxHeartbeats 4000000 in
set_option maxRecDepth 100000 in
theorem t_L_number_27 {l : Launch} {G : k_G} {p : Program} {e : Env} {s : State} {m : MethodId} {args : Array Value} {below : List Frame} {meth : Method} {c : Code} {A : Nat → Prop} {h_a1 h_o : Nat} {out : (Nat → Int32) × k_SB} (C0 : k_C G p s m args meth c A cL_number RL wsL_number 5 none "number") : ∀ (n : Nat) (w : va_W) (x3 : Int32) (x4 : Int32) (w_a1 : Nat → Int32) (σ : k_SB) (H : Heap) (locs : List Loc) (ls : Array Slot), XW G h_o σ w → va_P G.1 vwCl ([(h_a1, .inl (k_cI G, 7, .inl w_a1))] ++ w) H → va_D A ([(h_a1, .inl (k_cI G, 7, .inl w_a1))] ++ w) → va_S A s.heap H locs → lv_has ls 5 [(0, .ref h_o), (1, .ref h_a1), (3, .int x3), (4, .int x4)] → f_L_number_27 n x3 x4 w_a1 σ = some out → W p l e rm_L_number s m args below meth c H locs 0 0 (MQ below (va_Qv (fun (u9 : va_W) => (fun u9 : va_W => ∃ w9, u9 = [(h_a1, .inl (k_cI G, 7, .inl out.1))] ++ w9 ∧ XW G h_o out.2 w9) u9) (fun u9 t => k_PB G A u9 t) A) args s 0 0 A) (F0 m 27 ls []) := by
  have hx := C0.1
  have hb := C0.2.1
  have hts := C0.2.2.2.1
  have hown := C0.2.2.2.2.1
  have hK := C0.2.2.2.2.2.2.2.2.1.1
  have hNW := C0.2.2.2.2.2.2.2.2.1.2.1
  have hSF := C0.2.2.2.2.2.2.2.2.1.2.2
  intro n
  induction n with
  | zero =>
    intro w x3 x4 w_a1 σ H locs ls hXW hP hD hS hl hrun
    rw [f_L_number_27] at hrun
    cases hrun
  | succ n ih =>
    intro w x3 x4 w_a1 σ H locs ls hXW hP hD hS hl hrun
    rw [f_L_number_27] at hrun
    refine lv_iload hx hb dL_number_27 (lv_at hl 3 rfl) ?_
    refine lv_iconst (v := 1) hx hb dL_number_29 (by decide) ?_
    refine lv_icmp_le (tgt := 49) hx hb dL_number_30 (by decide) (fun q1 => ?_) (fun q1 => ?_)
    · replace hrun := if_t q1 hrun
      exact t_L_number_49 C0 kFU w x3 x4 w_a1 σ _ _ _ hXW hP hD hS hl hrun
    · replace hrun := if_f q1 hrun
      refine lv_iload_n hx hb dL_number_33 rfl (lv_at hl 2 rfl) ?_
      refine lv_iload hx hb dL_number_34 (lv_at hl 3 rfl) ?_
      refine lv_icmp_ge (tgt := 49) hx hb dL_number_36 (by decide) (fun q2 => ?_) (fun q2 => ?_)
      · replace hrun := if_t q2 hrun
        exact t_L_number_49 C0 kFU w x3 x4 w_a1 σ _ _ _ hXW hP hD hS hl hrun
      · replace hrun := if_f q2 hrun
        refine lv_iload hx hb dL_number_39 (lv_at hl 3 rfl) ?_
        refine lv_bipush (v := 10) hx hb dL_number_41 (by decide) ?_
        refine lv_idiv hx hb dL_number_43 (by decide) ?_
        obtain ⟨n3, en, hrun⟩ := lt_inv hrun
        refine k_nmi en ?_
        clear en
        refine lv_istore (lv' := [(4, .int n3), (0, .ref h_o), (1, .ref h_a1), (3, .int x3)]) hx hb dL_number_44 hl (by decide) rfl (fun ls hl => ?_)
        refine lv_goto (tgt := 27) hx hb dL_number_46 (by decide) ?_
        exact ih w x3 n3 w_a1 σ _ _ _ hXW hP hD hS (lv_sub hl [1, 2, 3, 0] rfl) hrun
set_option maxHeartbeats 4000000 in
set_option maxRecDepth 100000 in
theorem t_L_number_21 {l : Launch} {G : k_G} {p : Program} {e : Env} {s : State} {m : MethodId} {args : Array Value} {below : List Frame} {meth : Method} {c : Code} {A : Nat → Prop} {h_a1 h_o : Nat} {out : (Nat → Int32) × k_SB} (C0 : k_C G p s m args meth c A cL_number RL wsL_number 5 none "number") : ∀ (w : va_W) (s0 : Int32) (w_a1 : Nat → Int32) (σ : k_SB) (H : Heap) (locs : List Loc) (ls : Array Slot), XW G h_o σ w → va_P G.1 vwCl ([(h_a1, .inl (k_cI G, 7, .inl w_a1))] ++ w) H → va_D A ([(h_a1, .inl (k_cI G, 7, .inl w_a1))] ++ w) → va_S A s.heap H locs → lv_has ls 5 [(0, .ref h_o), (1, .ref h_a1)] → f_L_number_21 s0 w_a1 σ = some out → W p l e rm_L_number s m args below meth c H locs 0 0 (MQ below (va_Qv (fun (u9 : va_W) => (fun u9 : va_W => ∃ w9, u9 = [(h_a1, .inl (k_cI G, 7, .inl out.1))] ++ w9 ∧ XW G h_o out.2 w9) u9) (fun u9 t => k_PB G A u9 t) A) args s 0 0 A) (F0 m 21 ls [.int s0]) := by
  have hx := C0.1
  have hb := C0.2.1
  have hts := C0.2.2.2.1
  have hown := C0.2.2.2.2.1
  have hK := C0.2.2.2.2.2.2.2.2.1.1
  have hNW := C0.2.2.2.2.2.2.2.2.1.2.1
  have hSF := C0.2.2.2.2.2.2.2.2.1.2.2
  intro w s0 w_a1 σ H locs ls hXW hP hD hS hl hrun
  rw [f_L_number_21] at hrun
  refine lv_istore_n (lv' := [(3, .int s0), (0, .ref h_o), (1, .ref h_a1)]) hx hb dL_number_21 rfl hl (by decide) rfl (fun ls hl => ?_)
  refine lv_sipush (v := 1000) hx hb dL_number_22 (by decide) ?_
  refine lv_istore (lv' := [(4, .int (1000 : Int32)), (3, .int s0), (0, .ref h_o), (1, .ref h_a1)]) hx hb dL_number_25 hl (by decide) rfl (fun ls hl => ?_)
  exact t_L_number_27 C0 kFU w s0 (1000 : Int32) w_a1 σ _ _ _ hXW hP hD hS (lv_sub hl [2, 3, 1, 0] rfl) hrun
set_option maxHeartbeats 4000000 in
set_option maxRecDepth 100000 in
theorem t_L_number_11 {l : Launch} {G : k_G} {p : Program} {e : Env} {s : State} {m : MethodId} {args : Array Value} {below : List Frame} {meth : Method} {c : Code} {A : Nat → Prop} {h_a1 h_o : Nat} {out : (Nat → Int32) × k_SB} (C0 : k_C G p s m args meth c A cL_number RL wsL_number 5 none "number") : ∀ (w : va_W) (x2 : Int32) (w_a1 : Nat → Int32) (σ : k_SB) (H : Heap) (locs : List Loc) (ls : Array Slot), XW G h_o σ w → va_P G.1 vwCl ([(h_a1, .inl (k_cI G, 7, .inl w_a1))] ++ w) H → va_D A ([(h_a1, .inl (k_cI G, 7, .inl w_a1))] ++ w) → va_S A s.heap H locs → lv_has ls 5 [(0, .ref h_o), (1, .ref h_a1), (2, .int x2)] → f_L_number_11 x2 w_a1 σ = some out → W p l e rm_L_number s m args below meth c H locs 0 0 (MQ below (va_Qv (fun (u9 : va_W) => (fun u9 : va_W => ∃ w9, u9 = [(h_a1, .inl (k_cI G, 7, .inl out.1))] ++ w9 ∧ XW G h_o out.2 w9) u9) (fun u9 t => k_PB G A u9 t) A) args s 0 0 A) (F0 m 11 ls []) := by
  have hx := C0.1
  have hb := C0.2.1
  have hts := C0.2.2.2.1
  have hown := C0.2.2.2.2.1
  have hK := C0.2.2.2.2.2.2.2.2.1.1
  have hNW := C0.2.2.2.2.2.2.2.2.1.2.1
  have hSF := C0.2.2.2.2.2.2.2.2.1.2.2
  intro w x2 w_a1 σ H locs ls hXW hP hD hS hl hrun
  rw [f_L_number_11] at hrun
  refine lv_iload_n hx hb dL_number_11 rfl (lv_at hl 2 rfl) ?_
  refine lv_if_ge (tgt := 20) hx hb dL_number_12 (by decide) (fun q1 => ?_) (fun q1 => ?_)
  · replace hrun := if_t q1 hrun
    refine lv_iload_n hx hb dL_number_20 rfl (lv_at hl 2 rfl) ?_
    exact t_L_number_21 C0 w x2 w_a1 σ _ _ _ hXW hP hD hS (lv_sub hl [0, 1] rfl) hrun
  · replace hrun := if_f q1 hrun
    refine lv_iload_n hx hb dL_number_15 rfl (lv_at hl 2 rfl) ?_
    refine lv_ineg hx hb dL_number_16 ?_
    refine lv_goto (tgt := 21) hx hb dL_number_17 (by decide) ?_
    exact t_L_number_21 C0 w (-x2) w_a1 σ _ _ _ hXW hP hD hS (lv_sub hl [0, 1] rfl) hrun
set_option maxHeartbeats 4000000 in
set_option maxRecDepth 100000 in
theorem c_L_number {l : Launch} {G : k_G} {h_a1 h_o : Nat} {p2 : Int32} {w_a1 : Nat → Int32} {σ : k_SB} {w : va_W} {out : (Nat → Int32) × k_SB} (hXW : XW G h_o σ w) (hrun : f_L_number p2 w_a1 σ = some out) (sz : Nat) : k_Dv l G yL_number wsL_number rm_L_number [.ref h_o, .ref h_a1, .int p2] ([(h_a1, .inl (k_cI G, 7, .inl w_a1))] ++ w) sz (fun u9 : va_W => ∃ w9, u9 = [(h_a1, .inl (k_cI G, 7, .inl out.1))] ++ w9 ∧ XW G h_o out.2 w9) 0 0 := by
  refine k_of (cc := cL_number) (nL := 5) (ret := none) (own := RL) (nm := "number") (by decide) rfl rfl rfl rfl ?_
  intro p e s m args below meth c ls hsz C0 hP hD hS hl
  have hl : lv_has ls 5 [(0, .ref h_o), (1, .ref h_a1), (2, .int p2)] := hl
  generalize hH : s.heap = H at hP
  have hS : va_S (va_A ([(h_a1, .inl (k_cI G, 7, .inl w_a1))] ++ w) sz) s.heap H [] := by rw [← hH]; exact hS
  clear hH
  generalize va_A ([(h_a1, .inl (k_cI G, 7, .inl w_a1))] ++ w) sz = A at C0 hD hS ⊢
  have hx := C0.1
  have hb := C0.2.1
  have hts := C0.2.2.2.1
  have hown := C0.2.2.2.2.1
  have hK := C0.2.2.2.2.2.2.2.2.1.1
  have hNW := C0.2.2.2.2.2.2.2.2.1.2.1
  have hSF := C0.2.2.2.2.2.2.2.2.1.2.2
  rw [f_L_number] at hrun
  refine lv_iload_n hx hb dL_number_0 rfl (lv_at hl 2 rfl) ?_
  refine lv_if_ge (tgt := 11) hx hb dL_number_1 (by decide) (fun q1 => ?_) (fun q1 => ?_)
  · replace hrun := if_t q1 hrun
    exact t_L_number_11 C0 w p2 w_a1 σ _ _ _ hXW hP hD hS hl hrun
  · replace hrun := if_f q1 hrun
    refine lv_aload_n hx hb dL_number_4 rfl (lv_at hl 0 rfl) ?_
    refine lv_aload_n hx hb dL_number_5 rfl (lv_at hl 1 rfl) ?_
    refine lv_bipush (v := 45) hx hb dL_number_6 (by decide) ?_
    obtain ⟨t2, et2, hrun⟩ := bd_inv hrun
    refine lw_callSv (wr := []) (wc := ([(h_a1, .inl (k_cI G, 7, .inl w_a1))] ++ w)) (rest := []) C0 (c_L_put hXW et2 H.size) (va_cwS 3 hts gL_number_L_put rfl rfl rfl e_L_put.2 ⟨Nat.le_of_ble_eq_true rfl, Nat.le_of_ble_eq_true rfl⟩) hP hD hS rfl hl.1 rfl (Nat.le_of_ble_eq_true rfl) dL_number_8 ⟨Nat.le_of_ble_eq_true rfl, Nat.le_of_ble_eq_true rfl⟩ (fun u9 H locs hu9 hP hD hS => ?_)
    obtain ⟨w3, rfl, hXW⟩ := hu9
    have hP : va_P G.1 vwCl ([(h_a1, .inl (k_cI G, 7, .inl t2.1))] ++ w3) H := hP
    have hD : va_D A ([(h_a1, .inl (k_cI G, 7, .inl t2.1))] ++ w3) := hD
    clear et2
    exact t_L_number_11 C0 w3 p2 t2.1 t2.2 _ _ _ hXW hP hD hS hl hrun
abbrev rm_L_below : Room := { frames := 5, cells := 0, slots := 0, locals := 116 }
theorem e_L_below : yL_below.cls = RL ∧ yL_below.cls ≠ "java/lang/invoke/MethodHandle" ∧ yL_below.cls ≠ "java/lang/invoke/VarHandle" ∧ (parseMethodDescriptor yL_below.desc).map (fun d => d.parameters.length) = some 3 := by decide +kernel
set_option maxHeartbeats 4000000 in
set_option maxRecDepth 100000 in
theorem c_L_below {l : Launch} {G : k_G} {h_a1 h_o : Nat} {p2 : Int32} {w_a1 : Nat → Int32} {σ : k_SB} {w : va_W} {out : (Nat → Int32) × k_SB} (hXW : XW G h_o σ w) (hrun : f_L_below p2 w_a1 σ = some out) (sz : Nat) : k_Dv l G yL_below wsL_below rm_L_below [.ref h_o, .ref h_a1, .int p2] ([(h_a1, .inl (k_cI G, 7, .inl w_a1))] ++ w) sz (fun u9 : va_W => ∃ w9, u9 = [(h_a1, .inl (k_cI G, 7, .inl out.1))] ++ w9 ∧ XW G h_o out.2 w9) 0 0 := by
  refine k_of (cc := cL_below) (nL := 3) (ret := none) (own := RL) (nm := "below") (by decide) rfl rfl rfl rfl ?_
  intro p e s m args below meth c ls hsz C0 hP hD hS hl
  have hl : lv_has ls 3 [(0, .ref h_o), (1, .ref h_a1), (2, .int p2)] := hl
  generalize hH : s.heap = H at hP
  have hS : va_S (va_A ([(h_a1, .inl (k_cI G, 7, .inl w_a1))] ++ w) sz) s.heap H [] := by rw [← hH]; exact hS
  clear hH
  generalize va_A ([(h_a1, .inl (k_cI G, 7, .inl w_a1))] ++ w) sz = A at C0 hD hS ⊢
  have hx := C0.1
  have hb := C0.2.1
  have hts := C0.2.2.2.1
  have hown := C0.2.2.2.2.1
  have hK := C0.2.2.2.2.2.2.2.2.1.1
  have hNW := C0.2.2.2.2.2.2.2.2.1.2.1
  have hSF := C0.2.2.2.2.2.2.2.2.1.2.2
  rw [f_L_below] at hrun
  refine lv_iload_n hx hb dL_below_0 rfl (lv_at hl 2 rfl) ?_
  refine lv_if_ge (tgt := 21) hx hb dL_below_1 (by decide) (fun q1 => ?_) (fun q1 => ?_)
  · replace hrun := if_t q1 hrun
    refine lv_aload_n hx hb dL_below_21 rfl (lv_at hl 0 rfl) ?_
    refine lv_aload_n hx hb dL_below_22 rfl (lv_at hl 1 rfl) ?_
    refine lv_iload_n hx hb dL_below_23 rfl (lv_at hl 2 rfl) ?_
    obtain ⟨t2, et2, hrun⟩ := bd_inv hrun
    refine lw_callSv (wr := []) (wc := ([(h_a1, .inl (k_cI G, 7, .inl w_a1))] ++ w)) (rest := []) C0 (c_L_number hXW et2 H.size) (va_cwS 3 hts gL_below_L_number rfl rfl rfl e_L_number.2 ⟨Nat.le_of_ble_eq_true rfl, Nat.le_of_ble_eq_true rfl⟩) hP hD hS rfl hl.1 rfl (Nat.le_of_ble_eq_true rfl) dL_below_24 ⟨Nat.le_of_ble_eq_true rfl, Nat.le_of_ble_eq_true rfl⟩ (fun u9 H locs hu9 hP hD hS => ?_)
    obtain ⟨w3, rfl, hXW⟩ := hu9
    have hP : va_P G.1 vwCl ([(h_a1, .inl (k_cI G, 7, .inl t2.1))] ++ w3) H := hP
    have hD : va_D A ([(h_a1, .inl (k_cI G, 7, .inl t2.1))] ++ w3) := hD
    clear et2
    obtain rfl := Option.some.inj hrun
    exact kd_retv C0 hP hD hS ⟨w3, rfl, hXW⟩ dL_below_27
  · replace hrun := if_f q1 hrun
    refine lv_aload_n hx hb dL_below_4 rfl (lv_at hl 0 rfl) ?_
    refine lv_aload_n hx hb dL_below_5 rfl (lv_at hl 1 rfl) ?_
    refine lv_bipush (v := 45) hx hb dL_below_6 (by decide) ?_
    obtain ⟨t4, et4, hrun⟩ := bd_inv hrun
    refine lw_callSv (wr := []) (wc := ([(h_a1, .inl (k_cI G, 7, .inl w_a1))] ++ w)) (rest := []) C0 (c_L_put hXW et4 H.size) (va_cwS 3 hts gL_below_L_put rfl rfl rfl e_L_put.2 ⟨Nat.le_of_ble_eq_true rfl, Nat.le_of_ble_eq_true rfl⟩) hP hD hS rfl hl.1 rfl (Nat.le_of_ble_eq_true rfl) dL_below_8 ⟨Nat.le_of_ble_eq_true rfl, Nat.le_of_ble_eq_true rfl⟩ (fun u9 H locs hu9 hP hD hS => ?_)
    obtain ⟨w5, rfl, hXW⟩ := hu9
    have hP : va_P G.1 vwCl ([(h_a1, .inl (k_cI G, 7, .inl t4.1))] ++ w5) H := hP
    have hD : va_D A ([(h_a1, .inl (k_cI G, 7, .inl t4.1))] ++ w5) := hD
    clear et4
    refine lv_aload_n hx hb dL_below_11 rfl (lv_at hl 0 rfl) ?_
    refine lv_aload_n hx hb dL_below_12 rfl (lv_at hl 1 rfl) ?_
    refine lv_iload_n hx hb dL_below_13 rfl (lv_at hl 2 rfl) ?_
    refine lv_ineg hx hb dL_below_14 ?_
    obtain ⟨t6, et6, hrun⟩ := bd_inv hrun
    refine lw_callSv (wr := []) (wc := ([(h_a1, .inl (k_cI G, 7, .inl t4.1))] ++ w5)) (rest := []) C0 (c_L_number hXW et6 H.size) (va_cwS 3 hts gL_below_L_number rfl rfl rfl e_L_number.2 ⟨Nat.le_of_ble_eq_true rfl, Nat.le_of_ble_eq_true rfl⟩) hP hD hS rfl hl.1 rfl (Nat.le_of_ble_eq_true rfl) dL_below_15 ⟨Nat.le_of_ble_eq_true rfl, Nat.le_of_ble_eq_true rfl⟩ (fun u9 H locs hu9 hP hD hS => ?_)
    obtain ⟨w7, rfl, hXW⟩ := hu9
    have hP : va_P G.1 vwCl ([(h_a1, .inl (k_cI G, 7, .inl t6.1))] ++ w7) H := hP
    have hD : va_D A ([(h_a1, .inl (k_cI G, 7, .inl t6.1))] ++ w7) := hD
    clear et6
    refine lv_goto (tgt := 27) hx hb dL_below_18 (by decide) ?_
    obtain rfl := Option.some.inj hrun
    exact kd_retv C0 hP hD hS ⟨w7, rfl, hXW⟩ dL_below_27
