def f_X10_init : Option (Unit) :=
  some ()
def f_X10_hasRoom (p1 : Int32) (v_t_length : Int32) : Option (Int32) :=
  if (500 : Int32) < (v_t_length + p1) then
    some ((0 : Int32))
  else
    some ((1 : Int32))
def f_X10_addNumber_49 (k3 : Int32 → Int32 → Int32 → (Nat → Int32) → Option (Int32 × (Nat → Int32))) (x1 : Int32) (x2 : Int32) (v_t_length : Int32) (w_t_bytes : Nat → Int32) : Option (Int32 × (Nat → Int32)) :=
  k3 x1 (x2 + (-8)) v_t_length w_t_bytes
def f_X10_addNumber_3 : Nat → Int32 → Int32 → Int32 → (Nat → Int32) → Option (Int32 × (Nat → Int32))
  | 0, _, _, _, _ => none
  | n + 1, x1, x2, v_t_length, w_t_bytes =>
    if x2 < 0 then
      some (v_t_length, w_t_bytes)
    else
      (if v_t_length < 0 then
         f_X10_addNumber_49 (fun x1 x2 v_t_length w_t_bytes => f_X10_addNumber_3 n x1 x2 v_t_length w_t_bytes) x1 x2 v_t_length w_t_bytes
       else
         (if (500 : Int32) ≤ v_t_length then
            f_X10_addNumber_49 (fun x1 x2 v_t_length w_t_bytes => f_X10_addNumber_3 n x1 x2 v_t_length w_t_bytes) x1 x2 v_t_length w_t_bytes
          else
            (lt ((x1 >>> (x2 &&& 31)).toInt8.toInt32) fun n4 =>
             gd (inR v_t_length 500) <|
             lt (upd w_t_bytes v_t_length.toNatClampNeg (vp_nar .byte n4)) fun w6 =>
             lt (v_t_length + (1 : Int32)) fun n7 =>
             f_X10_addNumber_49 (fun x1 x2 v_t_length w_t_bytes => f_X10_addNumber_3 n x1 x2 v_t_length w_t_bytes) x1 x2 n7 w6)))
def f_X10_addNumber (p1 : Int32) (v_t_length : Int32) (w_t_bytes : Nat → Int32) : Option (Int32 × (Nat → Int32)) :=
  f_X10_addNumber_3 kFU p1 (24 : Int32) v_t_length w_t_bytes
def f_X10_byteAt (p1 : Int32) (w_t_bytes : Nat → Int32) : Option (Int32) :=
  if p1 < 0 then
    some ((0 : Int32))
  else
    (if (500 : Int32) ≤ p1 then
       some ((0 : Int32))
     else
       (gd (inR p1 500) <|
        some ((w_t_bytes p1.toNatClampNeg) &&& (255 : Int32))))
def f_X11_at (n_a0 : Nat) (p1 : Int32) (w_a0 : Nat → Int32) : Option (Int32) :=
  if p1 < 0 then
    some ((0 : Int32))
  else
    (if (Int32.ofNat n_a0) ≤ p1 then
       some ((0 : Int32))
     else
       (gd (inR p1 n_a0) <|
        some (w_a0 p1.toNatClampNeg)))
def f_X11_set (n_a0 : Nat) (p1 : Int32) (p2 : Int32) (w_a0 : Nat → Int32) : Option ((Nat → Int32)) :=
  if p1 < 0 then
    some (w_a0)
  else
    (if (Int32.ofNat n_a0) ≤ p1 then
       some (w_a0)
     else
       (gd (inR p1 n_a0) <|
        lt (upd w_a0 p1.toNatClampNeg p2) fun w4 =>
        some (w4)))
def f_X9_init : Option (Unit) :=
  some ()
def f_X9_row (p1 : Int32) (w_t_rows : Nat → Int32) : Option (Int32) :=
  bd (f_X11_at 5 p1 w_t_rows) fun t1 =>
  some (t1)
def f_X9_steps (p1 : Int32) (w_t_lengths : Nat → Int32) : Option (Int32) :=
  bd (f_X11_at 5 p1 w_t_lengths) fun t1 =>
  some (t1)
def f_X9_put (p1 : Int32) (p2 : Int32) (p3 : Int32) (w_t_lengths : Nat → Int32) (w_t_rows : Nat → Int32) : Option ((Nat → Int32) × (Nat → Int32)) :=
  bd (f_X11_set 5 p1 p2 w_t_rows) fun t1 =>
  bd (f_X11_set 5 p1 p3 w_t_lengths) fun t2 =>
  some (t2, t1)
def f_X9_copy_10 : Nat → Int32 → Int32 → Int32 → (Nat → Int32) → (Nat → Int32) → (Nat → Int32) → (Nat → Int32) → Option (Int32 × (Nat → Int32) × (Nat → Int32))
  | 0, _, _, _, _, _, _, _ => none
  | n + 1, x2, v_a1_count, v_t_count, w_a1_lengths, w_a1_rows, w_t_lengths, w_t_rows =>
    if (5 : Int32) ≤ x2 then
      some (v_t_count, w_t_lengths, w_t_rows)
    else
      (bd (f_X9_row x2 w_a1_rows) fun t2 =>
       bd (f_X9_steps x2 w_a1_lengths) fun t3 =>
       bd (f_X9_put x2 t2 t3 w_t_lengths w_t_rows) fun t4 =>
       f_X9_copy_10 n (x2 + 1) v_a1_count v_t_count w_a1_lengths w_a1_rows t4.1 t4.2)
def f_X9_copy (v_a1_count : Int32) (v_t_count : Int32) (w_a1_lengths : Nat → Int32) (w_a1_rows : Nat → Int32) (w_t_lengths : Nat → Int32) (w_t_rows : Nat → Int32) : Option (Int32 × (Nat → Int32) × (Nat → Int32)) :=
  f_X9_copy_10 kFU (0 : Int32) v_a1_count v_a1_count w_a1_lengths w_a1_rows w_t_lengths w_t_rows
def f_X0_init : Option (Unit) :=
  some ()
def f_X0_forgetFirst_2 : Nat → Int32 → Int32 → (Nat → Int32) → (Nat → Int32) → (Nat → Int32) → Option (Int32 × (Nat → Int32) × (Nat → Int32) × (Nat → Int32))
  | 0, _, _, _, _, _ => none
  | n + 1, x1, v_t_count, w_t_changed, w_t_lengths, w_t_rows =>
    if (16 : Int32) ≤ x1 then
      some ((15 : Int32), w_t_changed, w_t_lengths, w_t_rows)
    else
      (bd (f_X11_at 16 x1 w_t_changed) fun t2 =>
       bd (f_X11_set 16 (x1 - (1 : Int32)) t2 w_t_changed) fun t3 =>
       bd (f_X11_at 16 x1 w_t_rows) fun t4 =>
       bd (f_X11_set 16 (x1 - (1 : Int32)) t4 w_t_rows) fun t5 =>
       bd (f_X11_at 16 x1 w_t_lengths) fun t6 =>
       bd (f_X11_set 16 (x1 - (1 : Int32)) t6 w_t_lengths) fun t7 =>
       f_X0_forgetFirst_2 n (x1 + 1) v_t_count t3 t7 t5)
def f_X0_forgetFirst (v_t_count : Int32) (w_t_changed : Nat → Int32) (w_t_lengths : Nat → Int32) (w_t_rows : Nat → Int32) : Option (Int32 × (Nat → Int32) × (Nat → Int32) × (Nat → Int32)) :=
  f_X0_forgetFirst_2 kFU (1 : Int32) v_t_count w_t_changed w_t_lengths w_t_rows
def f_X0_keep_13 (x1 : Int32) (x2 : Int32) (x3 : Int32) (v_t_count : Int32) (w_t_changed : Nat → Int32) (w_t_lengths : Nat → Int32) (w_t_rows : Nat → Int32) : Option (Int32 × (Nat → Int32) × (Nat → Int32) × (Nat → Int32)) :=
  bd (f_X11_set 16 v_t_count x1 w_t_changed) fun t1 =>
  bd (f_X11_set 16 v_t_count x2 w_t_rows) fun t2 =>
  bd (f_X11_set 16 v_t_count x3 w_t_lengths) fun t3 =>
  lt (v_t_count + (1 : Int32)) fun n4 =>
  some (n4, t1, t3, t2)
def f_X0_keep (p1 : Int32) (p2 : Int32) (p3 : Int32) (v_t_count : Int32) (w_t_changed : Nat → Int32) (w_t_lengths : Nat → Int32) (w_t_rows : Nat → Int32) : Option (Int32 × (Nat → Int32) × (Nat → Int32) × (Nat → Int32)) :=
  if v_t_count < (16 : Int32) then
    f_X0_keep_13 p1 p2 p3 v_t_count w_t_changed w_t_lengths w_t_rows
  else
    (bd (f_X0_forgetFirst v_t_count w_t_changed w_t_lengths w_t_rows) fun t2 =>
     f_X0_keep_13 p1 p2 p3 t2.1 t2.2.1 t2.2.2.1 t2.2.2.2)
def f_X0_takeBack (v_t_count : Int32) (w_a1_lengths : Nat → Int32) (w_a1_rows : Nat → Int32) (w_t_changed : Nat → Int32) (w_t_lengths : Nat → Int32) (w_t_rows : Nat → Int32) : Option (Int32 × (Nat → Int32) × (Nat → Int32)) :=
  if v_t_count ≤ 0 then
    some (v_t_count, w_a1_lengths, w_a1_rows)
  else
    (lt (v_t_count - (1 : Int32)) fun n2 =>
     bd (f_X11_at 16 n2 w_t_changed) fun t3 =>
     bd (f_X11_at 16 n2 w_t_rows) fun t4 =>
     bd (f_X11_at 16 n2 w_t_lengths) fun t5 =>
     bd (f_X9_put t3 t4 t5 w_a1_lengths w_a1_rows) fun t6 =>
     some (n2, t6.1, t6.2))
def f_X3_init : Option (Unit) :=
  some ()
def f_X3_keep_2 : Nat → Int32 → Int32 → (Nat → Int32) → (Nat → Int32) → (Nat → Int32) → (Nat → Int32) → Option (Int32 × Int32 × (Nat → Int32) × (Nat → Int32))
  | 0, _, _, _, _, _, _ => none
  | n + 1, x2, v_t_count, w_a1_lengths, w_a1_rows, w_t_lengths, w_t_rows =>
    if (5 : Int32) ≤ x2 then
      (lt (v_t_count + (1 : Int32)) fun n2 =>
       some (n2 - (1 : Int32), n2, w_t_lengths, w_t_rows))
    else
      (bd (f_X9_row x2 w_a1_rows) fun t3 =>
       bd (f_X11_set 15 ((v_t_count * (5 : Int32)) + x2) t3 w_t_rows) fun t4 =>
       bd (f_X9_steps x2 w_a1_lengths) fun t5 =>
       bd (f_X11_set 15 ((v_t_count * (5 : Int32)) + x2) t5 w_t_lengths) fun t6 =>
       f_X3_keep_2 n (x2 + 1) v_t_count w_a1_lengths w_a1_rows t6 t4)
def f_X3_keep (v_t_count : Int32) (w_a1_lengths : Nat → Int32) (w_a1_rows : Nat → Int32) (w_t_lengths : Nat → Int32) (w_t_rows : Nat → Int32) : Option (Int32 × Int32 × (Nat → Int32) × (Nat → Int32)) :=
  f_X3_keep_2 kFU (0 : Int32) v_t_count w_a1_lengths w_a1_rows w_t_lengths w_t_rows
def f_X3_bring_2 : Nat → Int32 → Int32 → (Nat → Int32) → (Nat → Int32) → (Nat → Int32) → (Nat → Int32) → Option ((Nat → Int32) × (Nat → Int32))
  | 0, _, _, _, _, _, _ => none
  | n + 1, x1, x3, w_a2_lengths, w_a2_rows, w_t_lengths, w_t_rows =>
    if (5 : Int32) ≤ x3 then
      some (w_a2_lengths, w_a2_rows)
    else
      (bd (f_X11_at 15 ((x1 * (5 : Int32)) + x3) w_t_rows) fun t2 =>
       bd (f_X11_at 15 ((x1 * (5 : Int32)) + x3) w_t_lengths) fun t3 =>
       bd (f_X9_put x3 t2 t3 w_a2_lengths w_a2_rows) fun t4 =>
       f_X3_bring_2 n x1 (x3 + 1) t4.1 t4.2 w_t_lengths w_t_rows)
def f_X3_bring (p1 : Int32) (w_a2_lengths : Nat → Int32) (w_a2_rows : Nat → Int32) (w_t_lengths : Nat → Int32) (w_t_rows : Nat → Int32) : Option ((Nat → Int32) × (Nat → Int32)) :=
  f_X3_bring_2 kFU p1 (0 : Int32) w_a2_lengths w_a2_rows w_t_lengths w_t_rows
def f_X6_init : Option (Unit) :=
  some ()
def f_X6_countPoints_67 (k36 : Int32 → Int32 → Int32 → Int32 → Int32 → Int32 → Int32 → (Nat → Int32) → Option ((Nat → Int32))) (x2 : Int32) (x3 : Int32) (x4 : Int32) (x5 : Int32) (x6 : Int32) (x7 : Int32) (x8 : Int32) (s0 : Int32) (w_t_counts : Nat → Int32) : Option ((Nat → Int32)) :=
  bd (f_X11_at 36 s0 w_t_counts) fun t1 =>
  bd (f_X11_set 36 s0 (t1 + (1 : Int32)) w_t_counts) fun t2 =>
  bd (f_X8_startsUp x7 x2) fun t3 =>
  bd (f_X8_letterBehind x6 t3) fun t4 =>
  bd (f_X8_turned x7 x2) fun t5 =>
  k36 x2 x3 x4 x5 t4 t5 (x8 + 1) t2
def f_X6_countPoints_36 : Nat → Int32 → Int32 → Int32 → Int32 → Int32 → Int32 → Int32 → (Nat → Int32) → Option ((Nat → Int32))
  | 0, _, _, _, _, _, _, _, _ => none
  | n + 1, x2, x3, x4, x5, x6, x7, x8, w_t_counts =>
    if x3 ≤ x8 then
      some (w_t_counts)
    else
      (if x5 ≤ 0 then
         f_X6_countPoints_67 (fun x2 x3 x4 x5 x6 x7 x8 w_t_counts => f_X6_countPoints_36 n x2 x3 x4 x5 x6 x7 x8 w_t_counts) x2 x3 x4 x5 x6 x7 x8 (0 : Int32) w_t_counts
       else
         (gd (¬ x5 = 0) <|
          f_X6_countPoints_67 (fun x2 x3 x4 x5 x6 x7 x8 w_t_counts => f_X6_countPoints_36 n x2 x3 x4 x5 x6 x7 x8 w_t_counts) x2 x3 x4 x5 x6 x7 x8 (((x4 * x8) + ((x5 / (3 : Int32)) * x6)) - ((x4 * x8) + ((x5 / (3 : Int32)) * x6)) / x5 * x5) w_t_counts))
def f_X6_countPoints_3 : Nat → Int32 → Int32 → Int32 → Int32 → Int32 → Int32 → (Nat → Int32) → Option ((Nat → Int32))
  | 0, _, _, _, _, _, _, _ => none
  | n + 1, x1, x2, x3, x4, x5, x6, w_t_counts =>
    if (36 : Int32) ≤ x6 then
      f_X6_countPoints_36 kFU x2 x3 x4 x5 (0 : Int32) x1 (0 : Int32) w_t_counts
    else
      (gd (inR x6 36) <|
       lt (upd w_t_counts x6.toNatClampNeg (0 : Int32)) fun w3 =>
       f_X6_countPoints_3 n x1 x2 x3 x4 x5 (x6 + 1) w3)
def f_X6_countPoints (p1 : Int32) (p2 : Int32) (p3 : Int32) (p4 : Int32) (p5 : Int32) (w_t_counts : Nat → Int32) : Option ((Nat → Int32)) :=
  f_X6_countPoints_3 kFU p1 p2 p3 p4 p5 (0 : Int32) w_t_counts
def f_X6_isZero_2 : Nat → Int32 → Int32 → (Nat → Int32) → Option (Int32)
  | 0, _, _, _ => none
  | n + 1, x1, x2, w_t_counts =>
    if x1 ≤ x2 then
      some ((1 : Int32))
    else
      (bd (f_X11_at 36 x2 w_t_counts) fun t2 =>
       if t2 = 0 then
         f_X6_isZero_2 n x1 (x2 + 1) w_t_counts
       else
         some ((0 : Int32)))
def f_X6_isZero (p1 : Int32) (w_t_counts : Nat → Int32) : Option (Int32) :=
  f_X6_isZero_2 kFU p1 (0 : Int32) w_t_counts
def f_X6_subtractTurned_23 (k2 : Int32 → Int32 → Int32 → (Nat → Int32) → (Nat → Int32) → Option ((Nat → Int32) × (Nat → Int32))) (x1 : Int32) (x2 : Int32) (x3 : Int32) (s0 : Int32) (w_t_counts : Nat → Int32) (w_t_spare : Nat → Int32) : Option ((Nat → Int32) × (Nat → Int32)) :=
  bd (f_X11_at 36 s0 w_t_counts) fun t1 =>
  bd (f_X11_at 36 x3 w_t_counts) fun t2 =>
  bd (f_X11_set 36 x3 (t1 - t2) w_t_spare) fun t3 =>
  k2 x1 x2 (x3 + 1) w_t_counts t3
def f_X6_subtractTurned_2 : Nat → Int32 → Int32 → Int32 → (Nat → Int32) → (Nat → Int32) → Option ((Nat → Int32) × (Nat → Int32))
  | 0, _, _, _, _, _ => none
  | n + 1, x1, x2, x3, w_t_counts, w_t_spare =>
    if x2 ≤ x3 then
      some (w_t_spare, w_t_counts)
    else
      (if x3 < x1 then
         f_X6_subtractTurned_23 (fun x1 x2 x3 w_t_counts w_t_spare => f_X6_subtractTurned_2 n x1 x2 x3 w_t_counts w_t_spare) x1 x2 x3 ((x3 - x1) + x2) w_t_counts w_t_spare
       else
         f_X6_subtractTurned_23 (fun x1 x2 x3 w_t_counts w_t_spare => f_X6_subtractTurned_2 n x1 x2 x3 w_t_counts w_t_spare) x1 x2 x3 (x3 - x1) w_t_counts w_t_spare)
def f_X6_subtractTurned (p1 : Int32) (p2 : Int32) (w_t_counts : Nat → Int32) (w_t_spare : Nat → Int32) : Option ((Nat → Int32) × (Nat → Int32)) :=
  f_X6_subtractTurned_2 kFU p1 p2 (0 : Int32) w_t_counts w_t_spare
def f_X6_goesOut_107 (k66 : Int32 → Int32 → (Nat → Int32) → (Nat → Int32) → Option (Int32 × (Nat → Int32) × (Nat → Int32))) (x5 : Int32) (x6 : Int32) (w_t_counts : Nat → Int32) (w_t_spare : Nat → Int32) : Option (Int32 × (Nat → Int32) × (Nat → Int32)) :=
  k66 x5 (x6 + 1) w_t_counts w_t_spare
def f_X6_goesOut_66 : Nat → Int32 → Int32 → (Nat → Int32) → (Nat → Int32) → Option (Int32 × (Nat → Int32) × (Nat → Int32))
  | 0, _, _, _, _ => none
  | n + 1, x5, x6, w_t_counts, w_t_spare =>
    if (5 : Int32) ≤ x6 then
      (bd (f_X6_isZero x5 w_t_counts) fun t2 =>
       gd (t2 = 0 ∨ t2 = 1) <|
       some (t2, w_t_counts, w_t_spare))
    else
      (gd (inR x6 5) <|
       lt (k_prm.getD x6.toNatClampNeg 0) fun n5 =>
       if n5 ≤ 0 then
         f_X6_goesOut_107 (fun x5 x6 w_t_counts w_t_spare => f_X6_goesOut_66 n x5 x6 w_t_counts w_t_spare) x5 x6 w_t_counts w_t_spare
       else
         (gd (¬ n5 = 0) <|
          if (x5 - x5 / n5 * n5) = 0 then
            (gd (¬ n5 = 0) <|
             bd (f_X6_subtractTurned (x5 / n5) x5 w_t_counts w_t_spare) fun t10 =>
             f_X6_goesOut_107 (fun x5 x6 w_t_counts w_t_spare => f_X6_goesOut_66 n x5 x6 w_t_counts w_t_spare) x5 x6 t10.1 t10.2)
          else
            f_X6_goesOut_107 (fun x5 x6 w_t_counts w_t_spare => f_X6_goesOut_66 n x5 x6 w_t_counts w_t_spare) x5 x6 w_t_counts w_t_spare))
def f_X6_goesOut_23 (x1 : Int32) (x2 : Int32) (x3 : Int32) (x4 : Int32) (s0 : Int32) (w_t_counts : Nat → Int32) (w_t_spare : Nat → Int32) : Option (Int32 × (Nat → Int32) × (Nat → Int32)) :=
  if x4 < (1 : Int32) then
    some ((0 : Int32), w_t_counts, w_t_spare)
  else
    (if s0 < (1 : Int32) then
       some ((0 : Int32), w_t_counts, w_t_spare)
     else
       (if s0 ≤ (36 : Int32) then
          (gd (¬ x4 = 0) <|
           bd (f_X6_countPoints x1 x2 x4 ((s0 / x4) * x3) s0 w_t_counts) fun t5 =>
           f_X6_goesOut_66 kFU s0 (0 : Int32) t5 w_t_spare)
        else
          some ((0 : Int32), w_t_counts, w_t_spare)))
def f_X6_goesOut (p1 : Int32) (p2 : Int32) (p3 : Int32) (w_t_counts : Nat → Int32) (w_t_spare : Nat → Int32) : Option (Int32 × (Nat → Int32) × (Nat → Int32)) :=
  bd (f_X8_repeatsAfter p1 p2) fun t1 =>
  if (t1 - t1 / (3 : Int32) * (3 : Int32)) = 0 then
    f_X6_goesOut_23 p1 p2 p3 t1 t1 w_t_counts w_t_spare
  else
    f_X6_goesOut_23 p1 p2 p3 t1 ((3 : Int32) * t1) w_t_counts w_t_spare
theorem u_X10_init_1 : (Cond.methodLink RX10 1 objectInit) ∈ wsX10_init := List.mem_of_getElem? (i := 1) (by decide +kernel)
theorem u_X10_init_2 : (Cond.instanceMethod objectInit) ∈ wsX10_init := List.mem_of_getElem? (i := 2) (by decide +kernel)
theorem u_X10_init_3 : (Cond.code objectInit ⟨#[0xb1]⟩ 1 none) ∈ wsX10_init := List.mem_of_getElem? (i := 3) (by decide +kernel)
theorem u_X10_init_4 : (Cond.arrayClass .byte) ∈ wsX10_init := List.mem_of_getElem? (i := 4) (by decide +kernel)
theorem u_X10_init_5 : (Cond.fieldLink RX10 9 "ClosePacking$Tape" "bytes" "[B") ∈ wsX10_init := List.mem_of_getElem? (i := 5) (by decide +kernel)
theorem n_X10_init_X10 : ∀ w ∈ u_ws RX10 TX10 2, w ∈ wsX10_init := by decide +kernel
abbrev rm_X10_init : Room := { frames := 1, cells := 1, slots := 500, locals := 20 }
theorem e_X10_init : yX10_init.cls = RX10 ∧ yX10_init.cls ≠ "java/lang/invoke/MethodHandle" ∧ yX10_init.cls ≠ "java/lang/invoke/VarHandle" ∧ (parseMethodDescriptor yX10_init.desc).map (fun d => d.parameters.length) = some 0 := by decide +kernel
set_option maxHeartbeats 4000000 in
set_option maxRecDepth 100000 in
theorem c_X10_init {l : Launch} {G : k_G} {h_t : Nat} {g_t_bytes g_t_length : Value} {sz : Nat} {out : Unit} (hrun : f_X10_init  = some out) : k_Cv l G yX10_init wsX10_init rm_X10_init [.ref h_t] [(h_t, .inr (7, [g_t_bytes, g_t_length]))] sz (fun (u : Nat) => [(h_t, .inr (7, [.ref u, g_t_length])), (u, .inl (k_cB G, 500, .inl (fun _ => 0)))]) 1 500 := by
  refine k_of (cc := cX10_init) (nL := 1) (ret := none) (own := RX10) (nm := "<init>") (by decide) rfl rfl rfl rfl ?_
  intro p e s m args below meth c ls hsz C0 hP hD hS hl
  have hl : lv_has ls 1 [(0, .ref h_t)] := hl
  generalize hH : s.heap = H at hP
  have hS : va_S (va_A [(h_t, .inr (7, [g_t_bytes, g_t_length]))] sz) s.heap H [] := by rw [← hH]; exact hS
  clear hH
  generalize va_A [(h_t, .inr (7, [g_t_bytes, g_t_length]))] sz = A at C0 hD hS ⊢
  have hx := C0.1
  have hb := C0.2.1
  have hts := C0.2.2.2.1
  have hown := C0.2.2.2.2.1
  have hK := C0.2.2.2.2.2.2.2.2.1.1
  have hNW := C0.2.2.2.2.2.2.2.2.1.2.1
  have hSF := C0.2.2.2.2.2.2.2.2.1.2.2
  rw [f_X10_init] at hrun
  refine lv_aload_n hx hb dX10_init_0 rfl (lv_at hl 0 rfl) ?_
  refine W.objInit hx hb hown (hts _ u_X10_init_1) (hts _ u_X10_init_2) (hts _ u_X10_init_3) rfl (by rw [C0.2.2.2.2.2.2.1]; exact hl.1) rfl dX10_init_1 (Nat.le_of_ble_eq_true rfl) (Nat.le_of_ble_eq_true rfl) ?_
  refine W.eq (g2 := F0 m 4 ls []) rfl ?_
  refine lv_aload_n hx hb dX10_init_4 rfl (lv_at hl 0 rfl) ?_
  refine lv_sipush (v := 500) hx hb dX10_init_5 (by decide) ?_
  refine k_newa (atype := .byte) (ty := .byte) (a0 := (500, .inl (fun _ => 0))) C0 (hts _ u_X10_init_4) rfl 0 rfl (fun _ h9 => h9) hP hD hS (fun _ => rfl) (by decide) (by decide) (Nat.le_of_ble_eq_true rfl) (Nat.le_of_ble_eq_true rfl) (Nat.le_of_ble_eq_true rfl) dX10_init_8 (fun h_n8 H hP hD hS => ?_)
  have hP : va_P G.1 vwCl [(h_t, .inr (7, [g_t_bytes, g_t_length])), (h_n8, .inl (k_cB G, 500, .inl (fun _ => 0)))] H := hP
  have hD : va_D A [(h_t, .inr (7, [g_t_bytes, g_t_length])), (h_n8, .inl (k_cB G, 500, .inl (fun _ => 0)))] := hD
  refine W.widen (k := 1) (n := 500) (Nat.le_of_ble_eq_true rfl) (Nat.le_of_ble_eq_true rfl) ?_
  refine va_putF (D := G.1) (ci := 7) (v := .ref h_n8) (ty := (tyX10 0)) (C := RX10) (T := TX10) (N := 2) hx hb hts n_X10_init_X10 tyX10 tyX10_ok nmX10 hown hK hP hD hS 0 rfl rfl 0 (by decide) (hts _ u_X10_init_5) (fun _ h9 => h9) rfl C0.2.2.2.2.2.2.2.2.2 rfl (by decide +kernel) rfl rfl (Nat.le_of_ble_eq_true rfl) dX10_init_10 (fun H locs hP hD hS => ?_)
  have hP : va_P G.1 vwCl [(h_t, .inr (7, [.ref h_n8, g_t_length])), (h_n8, .inl (k_cB G, 500, .inl (fun _ => 0)))] H := hP
  have hD : va_D A [(h_t, .inr (7, [.ref h_n8, g_t_length])), (h_n8, .inl (k_cB G, 500, .inl (fun _ => 0)))] := hD
  obtain rfl := Option.some.inj hrun
  exact k_retv C0 hP hD hS (h_n8) rfl dX10_init_13
theorem u_X10_hasRoom_1 : (Cond.fieldLink RX10 13 "ClosePacking$Tape" "length" "I") ∈ wsX10_hasRoom := List.mem_of_getElem? (i := 1) (by decide +kernel)
theorem n_X10_hasRoom_X10 : ∀ w ∈ u_ws RX10 TX10 2, w ∈ wsX10_hasRoom := by decide +kernel
abbrev rm_X10_hasRoom : Room := { frames := 0, cells := 0, slots := 0, locals := 0 }
theorem e_X10_hasRoom : yX10_hasRoom.cls = RX10 ∧ yX10_hasRoom.cls ≠ "java/lang/invoke/MethodHandle" ∧ yX10_hasRoom.cls ≠ "java/lang/invoke/VarHandle" ∧ (parseMethodDescriptor yX10_hasRoom.desc).map (fun d => d.parameters.length) = some 1 := by decide +kernel
set_option maxHeartbeats 4000000 in
set_option maxRecDepth 100000 in
theorem c_X10_hasRoom {l : Launch} {G : k_G} {h_t : Nat} {g_t_bytes : Value} {sz : Nat} {p1 : Int32} {v_t_length : Int32} {out : Int32} (hrun : f_X10_hasRoom p1 v_t_length = some out) : k_Ci l G yX10_hasRoom wsX10_hasRoom rm_X10_hasRoom [.ref h_t, .int p1] [(h_t, .inr (7, [g_t_bytes, .int v_t_length]))] sz out (fun (_ : Unit) => [(h_t, .inr (7, [g_t_bytes, .int v_t_length]))]) 0 0 := by
  refine k_of (cc := cX10_hasRoom) (nL := 2) (ret := some .boolean) (own := RX10) (nm := "hasRoom") (by decide) rfl rfl rfl rfl ?_
  intro p e s m args below meth c ls hsz C0 hP hD hS hl
  have hl : lv_has ls 2 [(0, .ref h_t), (1, .int p1)] := hl
  generalize hH : s.heap = H at hP
  have hS : va_S (va_A [(h_t, .inr (7, [g_t_bytes, .int v_t_length]))] sz) s.heap H [] := by rw [← hH]; exact hS
  clear hH
  generalize va_A [(h_t, .inr (7, [g_t_bytes, .int v_t_length]))] sz = A at C0 hD hS ⊢
  have hx := C0.1
  have hb := C0.2.1
  have hts := C0.2.2.2.1
  have hown := C0.2.2.2.2.1
  have hK := C0.2.2.2.2.2.2.2.2.1.1
  have hNW := C0.2.2.2.2.2.2.2.2.1.2.1
  have hSF := C0.2.2.2.2.2.2.2.2.1.2.2
  rw [f_X10_hasRoom] at hrun
  refine lv_aload_n hx hb dX10_hasRoom_0 rfl (lv_at hl 0 rfl) ?_
  refine va_get (D := G.1) (ci := 7) (v := .int v_t_length) (C := RX10) (T := TX10) (N := 2) hx hb hts n_X10_hasRoom_X10 hown hK hP 0 rfl rfl 1 (by decide) (hts _ u_X10_hasRoom_1) (fun _ h9 => h9) rfl dX10_hasRoom_1 ?_
  refine lv_iload_n hx hb dX10_hasRoom_4 rfl (lv_at hl 1 rfl) ?_
  refine lv_iadd hx hb dX10_hasRoom_5 ?_
  refine lv_sipush (v := 500) hx hb dX10_hasRoom_6 (by decide) ?_
  refine lv_icmp_gt (tgt := 16) hx hb dX10_hasRoom_9 (by decide) (fun q1 => ?_) (fun q1 => ?_)
  · replace hrun := if_t q1 hrun
    refine lv_iconst (v := 0) hx hb dX10_hasRoom_16 (by decide) ?_
    obtain rfl := Option.some.inj hrun
    exact k_retz C0 hP hD hS () rfl rfl rfl dX10_hasRoom_17
  · replace hrun := if_f q1 hrun
    refine lv_iconst (v := 1) hx hb dX10_hasRoom_12 (by decide) ?_
    refine lv_goto (tgt := 17) hx hb dX10_hasRoom_13 (by decide) ?_
    obtain rfl := Option.some.inj hrun
    exact k_retz C0 hP hD hS () rfl rfl rfl dX10_hasRoom_17
theorem u_X10_addNumber_1 : (Cond.fieldLink RX10 13 "ClosePacking$Tape" "length" "I") ∈ wsX10_addNumber := List.mem_of_getElem? (i := 1) (by decide +kernel)
theorem u_X10_addNumber_2 : (Cond.fieldLink RX10 9 "ClosePacking$Tape" "bytes" "[B") ∈ wsX10_addNumber := List.mem_of_getElem? (i := 2) (by decide +kernel)
theorem n_X10_addNumber_X10 : ∀ w ∈ u_ws RX10 TX10 2, w ∈ wsX10_addNumber := by decide +kernel
abbrev rm_X10_addNumber : Room := { frames := 0, cells := 0, slots := 0, locals := 0 }
theorem e_X10_addNumber : yX10_addNumber.cls = RX10 ∧ yX10_addNumber.cls ≠ "java/lang/invoke/MethodHandle" ∧ yX10_addNumber.cls ≠ "java/lang/invoke/VarHandle" ∧ (parseMethodDescriptor yX10_addNumber.desc).map (fun d => d.parameters.length) = some 1 := by decide +kernel
set_option maxHeartbeats 4000000 in
set_option maxRecDepth 100000 in
theorem t_X10_addNumber_49 {l : Launch} {G : k_G} {p : Program} {e : Env} {s : State} {m : MethodId} {args : Array Value} {below : List Frame} {meth : Method} {c : Code} {A : Nat → Prop} {h_t h_t_bytes : Nat} {out : Int32 × (Nat → Int32)} (C0 : k_C G p s m args meth c A cX10_addNumber RX10 wsX10_addNumber 3 none "addNumber") (k3 : Int32 → Int32 → Int32 → (Nat → Int32) → Option (Int32 × (Nat → Int32))) (hk3 : ∀ (x1 : Int32) (x2 : Int32) (v_t_length : Int32) (w_t_bytes : Nat → Int32) (H : Heap) (locs : List Loc) (ls : Array Slot), va_P G.1 vwCl [(h_t, .inr (7, [.ref h_t_bytes, .int v_t_length])), (h_t_bytes, .inl (k_cB G, 500, .inl w_t_bytes))] H → va_D A [(h_t, .inr (7, [.ref h_t_bytes, .int v_t_length])), (h_t_bytes, .inl (k_cB G, 500, .inl w_t_bytes))] → va_S A s.heap H locs → lv_has ls 3 [(0, .ref h_t), (1, .int x1), (2, .int x2)] → k3 x1 x2 v_t_length w_t_bytes = some out → W p l e rm_X10_addNumber s m args below meth c H locs 0 0 (MQ below (k_Qv G A (fun (_ : Unit) => [(h_t, .inr (7, [.ref h_t_bytes, .int out.1])), (h_t_bytes, .inl (k_cB G, 500, .inl out.2))])) args s 0 0 A) (F0 m 3 ls [])) : ∀ (x1 : Int32) (x2 : Int32) (v_t_length : Int32) (w_t_bytes : Nat → Int32) (H : Heap) (locs : List Loc) (ls : Array Slot), va_P G.1 vwCl [(h_t, .inr (7, [.ref h_t_bytes, .int v_t_length])), (h_t_bytes, .inl (k_cB G, 500, .inl w_t_bytes))] H → va_D A [(h_t, .inr (7, [.ref h_t_bytes, .int v_t_length])), (h_t_bytes, .inl (k_cB G, 500, .inl w_t_bytes))] → va_S A s.heap H locs → lv_has ls 3 [(0, .ref h_t), (1, .int x1), (2, .int x2)] → f_X10_addNumber_49 k3 x1 x2 v_t_length w_t_bytes = some out → W p l e rm_X10_addNumber s m args below meth c H locs 0 0 (MQ below (k_Qv G A (fun (_ : Unit) => [(h_t, .inr (7, [.ref h_t_bytes, .int out.1])), (h_t_bytes, .inl (k_cB G, 500, .inl out.2))])) args s 0 0 A) (F0 m 49 ls []) := by
  have hx := C0.1
  have hb := C0.2.1
  have hts := C0.2.2.2.1
  have hown := C0.2.2.2.2.1
  have hK := C0.2.2.2.2.2.2.2.2.1.1
  have hNW := C0.2.2.2.2.2.2.2.2.1.2.1
  have hSF := C0.2.2.2.2.2.2.2.2.1.2.2
  intro x1 x2 v_t_length w_t_bytes H locs ls hP hD hS hl hrun
  rw [f_X10_addNumber_49] at hrun
  refine lv_iinc (v := x2 + (-8)) (lv' := [(2, .int (x2 + (-8))), (0, .ref h_t), (1, .int x1)]) hx hb dX10_addNumber_49 hl (k := 2) rfl rfl (by decide) rfl (fun ls hl => ?_)
  refine lv_goto (tgt := 3) hx hb dX10_addNumber_52 (by decide) ?_
  exact hk3 x1 (x2 + (-8)) v_t_length w_t_bytes _ _ _ hP hD hS (lv_sub hl [1, 2, 0] rfl) hrun
set_option maxHeartbeats 4000000 in
set_option maxRecDepth 100000 in
theorem t_X10_addNumber_3 {l : Launch} {G : k_G} {p : Program} {e : Env} {s : State} {m : MethodId} {args : Array Value} {below : List Frame} {meth : Method} {c : Code} {A : Nat → Prop} {h_t h_t_bytes : Nat} {out : Int32 × (Nat → Int32)} (C0 : k_C G p s m args meth c A cX10_addNumber RX10 wsX10_addNumber 3 none "addNumber") : ∀ (n : Nat) (x1 : Int32) (x2 : Int32) (v_t_length : Int32) (w_t_bytes : Nat → Int32) (H : Heap) (locs : List Loc) (ls : Array Slot), va_P G.1 vwCl [(h_t, .inr (7, [.ref h_t_bytes, .int v_t_length])), (h_t_bytes, .inl (k_cB G, 500, .inl w_t_bytes))] H → va_D A [(h_t, .inr (7, [.ref h_t_bytes, .int v_t_length])), (h_t_bytes, .inl (k_cB G, 500, .inl w_t_bytes))] → va_S A s.heap H locs → lv_has ls 3 [(0, .ref h_t), (1, .int x1), (2, .int x2)] → f_X10_addNumber_3 n x1 x2 v_t_length w_t_bytes = some out → W p l e rm_X10_addNumber s m args below meth c H locs 0 0 (MQ below (k_Qv G A (fun (_ : Unit) => [(h_t, .inr (7, [.ref h_t_bytes, .int out.1])), (h_t_bytes, .inl (k_cB G, 500, .inl out.2))])) args s 0 0 A) (F0 m 3 ls []) := by
  have hx := C0.1
  have hb := C0.2.1
  have hts := C0.2.2.2.1
  have hown := C0.2.2.2.2.1
  have hK := C0.2.2.2.2.2.2.2.2.1.1
  have hNW := C0.2.2.2.2.2.2.2.2.1.2.1
  have hSF := C0.2.2.2.2.2.2.2.2.1.2.2
  intro n
  induction n with
  | zero =>
    intro x1 x2 v_t_length w_t_bytes H locs ls hP hD hS hl hrun
    rw [f_X10_addNumber_3] at hrun
    cases hrun
  | succ n ih =>
    intro x1 x2 v_t_length w_t_bytes H locs ls hP hD hS hl hrun
    rw [f_X10_addNumber_3] at hrun
    refine lv_iload_n hx hb dX10_addNumber_3 rfl (lv_at hl 2 rfl) ?_
    refine lv_if_lt (tgt := 55) hx hb dX10_addNumber_4 (by decide) (fun q1 => ?_) (fun q1 => ?_)
    · replace hrun := if_t q1 hrun
      obtain rfl := Option.some.inj hrun
      exact k_retv C0 hP hD hS () rfl dX10_addNumber_55
    · replace hrun := if_f q1 hrun
      refine lv_aload_n hx hb dX10_addNumber_7 rfl (lv_at hl 0 rfl) ?_
      refine va_get (D := G.1) (ci := 7) (v := .int v_t_length) (C := RX10) (T := TX10) (N := 2) hx hb hts n_X10_addNumber_X10 hown hK hP 0 rfl rfl 1 (by decide) (hts _ u_X10_addNumber_1) (fun _ h9 => h9) rfl dX10_addNumber_8 ?_
      refine lv_if_lt (tgt := 49) hx hb dX10_addNumber_11 (by decide) (fun q2 => ?_) (fun q2 => ?_)
      · replace hrun := if_t q2 hrun
        exact t_X10_addNumber_49 C0 (fun x1 x2 v_t_length w_t_bytes => f_X10_addNumber_3 n x1 x2 v_t_length w_t_bytes) ih x1 x2 v_t_length w_t_bytes _ _ _ hP hD hS hl hrun
      · replace hrun := if_f q2 hrun
        refine lv_aload_n hx hb dX10_addNumber_14 rfl (lv_at hl 0 rfl) ?_
        refine va_get (D := G.1) (ci := 7) (v := .int v_t_length) (C := RX10) (T := TX10) (N := 2) hx hb hts n_X10_addNumber_X10 hown hK hP 0 rfl rfl 1 (by decide) (hts _ u_X10_addNumber_1) (fun _ h9 => h9) rfl dX10_addNumber_15 ?_
        refine lv_aload_n hx hb dX10_addNumber_18 rfl (lv_at hl 0 rfl) ?_
        refine va_get (D := G.1) (ci := 7) (v := .ref h_t_bytes) (C := RX10) (T := TX10) (N := 2) hx hb hts n_X10_addNumber_X10 hown hK hP 0 rfl rfl 0 (by decide) (hts _ u_X10_addNumber_2) (fun _ h9 => h9) rfl dX10_addNumber_19 ?_
        refine va_alen (v := (500 : Int32)) hx hb hK hP 1 0 rfl rfl rfl dX10_addNumber_22 ?_
        refine lv_icmp_ge (tgt := 49) hx hb dX10_addNumber_23 (by decide) (fun q3 => ?_) (fun q3 => ?_)
        · replace hrun := if_t q3 hrun
          exact t_X10_addNumber_49 C0 (fun x1 x2 v_t_length w_t_bytes => f_X10_addNumber_3 n x1 x2 v_t_length w_t_bytes) ih x1 x2 v_t_length w_t_bytes _ _ _ hP hD hS hl hrun
        · replace hrun := if_f q3 hrun
          refine lv_aload_n hx hb dX10_addNumber_26 rfl (lv_at hl 0 rfl) ?_
          refine va_get (D := G.1) (ci := 7) (v := .ref h_t_bytes) (C := RX10) (T := TX10) (N := 2) hx hb hts n_X10_addNumber_X10 hown hK hP 0 rfl rfl 0 (by decide) (hts _ u_X10_addNumber_2) (fun _ h9 => h9) rfl dX10_addNumber_27 ?_
          refine lv_aload_n hx hb dX10_addNumber_30 rfl (lv_at hl 0 rfl) ?_
          refine va_get (D := G.1) (ci := 7) (v := .int v_t_length) (C := RX10) (T := TX10) (N := 2) hx hb hts n_X10_addNumber_X10 hown hK hP 0 rfl rfl 1 (by decide) (hts _ u_X10_addNumber_1) (fun _ h9 => h9) rfl dX10_addNumber_31 ?_
          refine lv_iload_n hx hb dX10_addNumber_34 rfl (lv_at hl 1 rfl) ?_
          refine lv_iload_n hx hb dX10_addNumber_35 rfl (lv_at hl 2 rfl) ?_
          refine lv_ishr hx hb dX10_addNumber_36 ?_
          refine lv_i2b hx hb dX10_addNumber_37 rfl ?_
          obtain ⟨n4, en, hrun⟩ := lt_inv hrun
          refine k_nmi en ?_
          clear en
          obtain ⟨gz5, hrun⟩ := gd_inv hrun
          obtain ⟨w6, ew, hrun⟩ := lt_inv hrun
          refine va_bast hx hb hK hP hD hS 1 0 rfl rfl gz5 dX10_addNumber_38 (fun H locs hP hD hS => ?_)
          have hP : va_P G.1 vwCl [(h_t, .inr (7, [.ref h_t_bytes, .int v_t_length])), (h_t_bytes, .inl (k_cB G, 500, .inl w6))] H := by rw [ew]; exact hP
          have hD : va_D A [(h_t, .inr (7, [.ref h_t_bytes, .int v_t_length])), (h_t_bytes, .inl (k_cB G, 500, .inl w6))] := by rw [ew]; exact hD
          clear ew
          refine lv_aload_n hx hb dX10_addNumber_39 rfl (lv_at hl 0 rfl) ?_
          refine lv_dup hx hb dX10_addNumber_40 rfl ?_
          refine va_get (D := G.1) (ci := 7) (v := .int v_t_length) (C := RX10) (T := TX10) (N := 2) hx hb hts n_X10_addNumber_X10 hown hK hP 0 rfl rfl 1 (by decide) (hts _ u_X10_addNumber_1) (fun _ h9 => h9) rfl dX10_addNumber_41 ?_
          refine lv_iconst (v := 1) hx hb dX10_addNumber_44 (by decide) ?_
          refine lv_iadd hx hb dX10_addNumber_45 ?_
          obtain ⟨n7, en, hrun⟩ := lt_inv hrun
          refine k_nmi en ?_
          clear en
          refine va_put (D := G.1) (ci := 7) (v := .int n7) (ty := .int) (C := RX10) (T := TX10) (N := 2) hx hb hts n_X10_addNumber_X10 tyX10 tyX10_ok nmX10 hown hK hP hD hS 0 rfl rfl 1 (by decide) (hts _ u_X10_addNumber_1) (fun _ h9 => h9) rfl (by decide +kernel) rfl rfl (Nat.le_of_ble_eq_true rfl) dX10_addNumber_46 (fun H locs hP hD hS => ?_)
          have hP : va_P G.1 vwCl [(h_t, .inr (7, [.ref h_t_bytes, .int n7])), (h_t_bytes, .inl (k_cB G, 500, .inl w6))] H := hP
          have hD : va_D A [(h_t, .inr (7, [.ref h_t_bytes, .int n7])), (h_t_bytes, .inl (k_cB G, 500, .inl w6))] := hD
          exact t_X10_addNumber_49 C0 (fun x1 x2 v_t_length w_t_bytes => f_X10_addNumber_3 n x1 x2 v_t_length w_t_bytes) ih x1 x2 n7 w6 _ _ _ hP hD hS hl hrun
set_option maxHeartbeats 4000000 in
set_option maxRecDepth 100000 in
theorem c_X10_addNumber {l : Launch} {G : k_G} {h_t h_t_bytes : Nat} {sz : Nat} {p1 : Int32} {v_t_length : Int32} {w_t_bytes : Nat → Int32} {out : Int32 × (Nat → Int32)} (hrun : f_X10_addNumber p1 v_t_length w_t_bytes = some out) : k_Cv l G yX10_addNumber wsX10_addNumber rm_X10_addNumber [.ref h_t, .int p1] [(h_t, .inr (7, [.ref h_t_bytes, .int v_t_length])), (h_t_bytes, .inl (k_cB G, 500, .inl w_t_bytes))] sz (fun (_ : Unit) => [(h_t, .inr (7, [.ref h_t_bytes, .int out.1])), (h_t_bytes, .inl (k_cB G, 500, .inl out.2))]) 0 0 := by
  refine k_of (cc := cX10_addNumber) (nL := 3) (ret := none) (own := RX10) (nm := "addNumber") (by decide) rfl rfl rfl rfl ?_
  intro p e s m args below meth c ls hsz C0 hP hD hS hl
  have hl : lv_has ls 3 [(0, .ref h_t), (1, .int p1)] := hl
  generalize hH : s.heap = H at hP
  have hS : va_S (va_A [(h_t, .inr (7, [.ref h_t_bytes, .int v_t_length])), (h_t_bytes, .inl (k_cB G, 500, .inl w_t_bytes))] sz) s.heap H [] := by rw [← hH]; exact hS
  clear hH
  generalize va_A [(h_t, .inr (7, [.ref h_t_bytes, .int v_t_length])), (h_t_bytes, .inl (k_cB G, 500, .inl w_t_bytes))] sz = A at C0 hD hS ⊢
  have hx := C0.1
  have hb := C0.2.1
  have hts := C0.2.2.2.1
  have hown := C0.2.2.2.2.1
  have hK := C0.2.2.2.2.2.2.2.2.1.1
  have hNW := C0.2.2.2.2.2.2.2.2.1.2.1
  have hSF := C0.2.2.2.2.2.2.2.2.1.2.2
  rw [f_X10_addNumber] at hrun
  refine lv_bipush (v := 24) hx hb dX10_addNumber_0 (by decide) ?_
  refine lv_istore_n (lv' := [(2, .int (24 : Int32)), (0, .ref h_t), (1, .int p1)]) hx hb dX10_addNumber_2 rfl hl (by decide) rfl (fun ls hl => ?_)
  exact t_X10_addNumber_3 C0 kFU p1 (24 : Int32) v_t_length w_t_bytes _ _ _ hP hD hS (lv_sub hl [1, 2, 0] rfl) hrun
theorem u_X10_byteAt_1 : (Cond.fieldLink RX10 9 "ClosePacking$Tape" "bytes" "[B") ∈ wsX10_byteAt := List.mem_of_getElem? (i := 1) (by decide +kernel)
theorem n_X10_byteAt_X10 : ∀ w ∈ u_ws RX10 TX10 2, w ∈ wsX10_byteAt := by decide +kernel
abbrev rm_X10_byteAt : Room := { frames := 0, cells := 0, slots := 0, locals := 0 }
theorem e_X10_byteAt : yX10_byteAt.cls = RX10 ∧ yX10_byteAt.cls ≠ "java/lang/invoke/MethodHandle" ∧ yX10_byteAt.cls ≠ "java/lang/invoke/VarHandle" ∧ (parseMethodDescriptor yX10_byteAt.desc).map (fun d => d.parameters.length) = some 1 := by decide +kernel
set_option maxHeartbeats 4000000 in
set_option maxRecDepth 100000 in
theorem c_X10_byteAt {l : Launch} {G : k_G} {h_t h_t_bytes : Nat} {g_t_length : Value} {sz : Nat} {p1 : Int32} {w_t_bytes : Nat → Int32} {out : Int32} (hrun : f_X10_byteAt p1 w_t_bytes = some out) : k_Ci l G yX10_byteAt wsX10_byteAt rm_X10_byteAt [.ref h_t, .int p1] [(h_t, .inr (7, [.ref h_t_bytes, g_t_length])), (h_t_bytes, .inl (k_cB G, 500, .inl w_t_bytes))] sz out (fun (_ : Unit) => [(h_t, .inr (7, [.ref h_t_bytes, g_t_length])), (h_t_bytes, .inl (k_cB G, 500, .inl w_t_bytes))]) 0 0 := by
  refine k_of (cc := cX10_byteAt) (nL := 2) (ret := some .int) (own := RX10) (nm := "byteAt") (by decide) rfl rfl rfl rfl ?_
  intro p e s m args below meth c ls hsz C0 hP hD hS hl
  have hl : lv_has ls 2 [(0, .ref h_t), (1, .int p1)] := hl
  generalize hH : s.heap = H at hP
  have hS : va_S (va_A [(h_t, .inr (7, [.ref h_t_bytes, g_t_length])), (h_t_bytes, .inl (k_cB G, 500, .inl w_t_bytes))] sz) s.heap H [] := by rw [← hH]; exact hS
  clear hH
  generalize va_A [(h_t, .inr (7, [.ref h_t_bytes, g_t_length])), (h_t_bytes, .inl (k_cB G, 500, .inl w_t_bytes))] sz = A at C0 hD hS ⊢
  have hx := C0.1
  have hb := C0.2.1
  have hts := C0.2.2.2.1
  have hown := C0.2.2.2.2.1
  have hK := C0.2.2.2.2.2.2.2.2.1.1
  have hNW := C0.2.2.2.2.2.2.2.2.1.2.1
  have hSF := C0.2.2.2.2.2.2.2.2.1.2.2
  rw [f_X10_byteAt] at hrun
  refine lv_iload_n hx hb dX10_byteAt_0 rfl (lv_at hl 1 rfl) ?_
  refine lv_if_lt (tgt := 26) hx hb dX10_byteAt_1 (by decide) (fun q1 => ?_) (fun q1 => ?_)
  · replace hrun := if_t q1 hrun
    refine lv_iconst (v := 0) hx hb dX10_byteAt_26 (by decide) ?_
    obtain rfl := Option.some.inj hrun
    exact k_reti C0 hP hD hS () rfl rfl dX10_byteAt_27
  · replace hrun := if_f q1 hrun
    refine lv_iload_n hx hb dX10_byteAt_4 rfl (lv_at hl 1 rfl) ?_
    refine lv_aload_n hx hb dX10_byteAt_5 rfl (lv_at hl 0 rfl) ?_
    refine va_get (D := G.1) (ci := 7) (v := .ref h_t_bytes) (C := RX10) (T := TX10) (N := 2) hx hb hts n_X10_byteAt_X10 hown hK hP 0 rfl rfl 0 (by decide) (hts _ u_X10_byteAt_1) (fun _ h9 => h9) rfl dX10_byteAt_6 ?_
    refine va_alen (v := (500 : Int32)) hx hb hK hP 1 0 rfl rfl rfl dX10_byteAt_9 ?_
    refine lv_icmp_ge (tgt := 26) hx hb dX10_byteAt_10 (by decide) (fun q2 => ?_) (fun q2 => ?_)
    · replace hrun := if_t q2 hrun
      refine lv_iconst (v := 0) hx hb dX10_byteAt_26 (by decide) ?_
      obtain rfl := Option.some.inj hrun
      exact k_reti C0 hP hD hS () rfl rfl dX10_byteAt_27
    · replace hrun := if_f q2 hrun
      refine lv_aload_n hx hb dX10_byteAt_13 rfl (lv_at hl 0 rfl) ?_
      refine va_get (D := G.1) (ci := 7) (v := .ref h_t_bytes) (C := RX10) (T := TX10) (N := 2) hx hb hts n_X10_byteAt_X10 hown hK hP 0 rfl rfl 0 (by decide) (hts _ u_X10_byteAt_1) (fun _ h9 => h9) rfl dX10_byteAt_14 ?_
      refine lv_iload_n hx hb dX10_byteAt_17 rfl (lv_at hl 1 rfl) ?_
      obtain ⟨gz3, hrun⟩ := gd_inv hrun
      refine va_bald hx hb hK hP 1 0 rfl rfl gz3 dX10_byteAt_18 ?_
      refine lv_sipush (v := 255) hx hb dX10_byteAt_19 (by decide) ?_
      refine lv_iand hx hb dX10_byteAt_22 ?_
      refine lv_goto (tgt := 27) hx hb dX10_byteAt_23 (by decide) ?_
      obtain rfl := Option.some.inj hrun
      exact k_reti C0 hP hD hS () rfl rfl dX10_byteAt_27
abbrev rm_X11_at : Room := { frames := 0, cells := 0, slots := 0, locals := 0 }
theorem e_X11_at : yX11_at.cls = RX11 ∧ yX11_at.cls ≠ "java/lang/invoke/MethodHandle" ∧ yX11_at.cls ≠ "java/lang/invoke/VarHandle" ∧ (parseMethodDescriptor yX11_at.desc).map (fun d => d.parameters.length) = some 2 := by decide +kernel
set_option maxHeartbeats 4000000 in
set_option maxRecDepth 100000 in
theorem c_X11_at {l : Launch} {G : k_G} {h_a0 n_a0 : Nat} {sz : Nat} {p1 : Int32} {w_a0 : Nat → Int32} {out : Int32} (hrun : f_X11_at n_a0 p1 w_a0 = some out) : k_Ci l G yX11_at wsX11_at rm_X11_at [.ref h_a0, .int p1] [(h_a0, .inl (k_cI G, n_a0, .inl w_a0))] sz out (fun (_ : Unit) => [(h_a0, .inl (k_cI G, n_a0, .inl w_a0))]) 0 0 := by
  refine k_of (cc := cX11_at) (nL := 2) (ret := some .int) (own := RX11) (nm := "at") (by decide) rfl rfl rfl rfl ?_
  intro p e s m args below meth c ls hsz C0 hP hD hS hl
  have hl : lv_has ls 2 [(0, .ref h_a0), (1, .int p1)] := hl
  generalize hH : s.heap = H at hP
  have hS : va_S (va_A [(h_a0, .inl (k_cI G, n_a0, .inl w_a0))] sz) s.heap H [] := by rw [← hH]; exact hS
  clear hH
  generalize va_A [(h_a0, .inl (k_cI G, n_a0, .inl w_a0))] sz = A at C0 hD hS ⊢
  have hx := C0.1
  have hb := C0.2.1
  have hts := C0.2.2.2.1
  have hown := C0.2.2.2.2.1
  have hK := C0.2.2.2.2.2.2.2.2.1.1
  have hNW := C0.2.2.2.2.2.2.2.2.1.2.1
  have hSF := C0.2.2.2.2.2.2.2.2.1.2.2
  rw [f_X11_at] at hrun
  refine lv_iload_n hx hb dX11_at_0 rfl (lv_at hl 1 rfl) ?_
  refine lv_if_lt (tgt := 16) hx hb dX11_at_1 (by decide) (fun q1 => ?_) (fun q1 => ?_)
  · replace hrun := if_t q1 hrun
    refine lv_iconst (v := 0) hx hb dX11_at_16 (by decide) ?_
    obtain rfl := Option.some.inj hrun
    exact k_reti C0 hP hD hS () rfl rfl dX11_at_17
  · replace hrun := if_f q1 hrun
    refine lv_iload_n hx hb dX11_at_4 rfl (lv_at hl 1 rfl) ?_
    refine lv_aload_n hx hb dX11_at_5 rfl (lv_at hl 0 rfl) ?_
    refine va_alen (v := Int32.ofNat n_a0) hx hb hK hP 0 1 rfl rfl rfl dX11_at_6 ?_
    refine lv_icmp_ge (tgt := 16) hx hb dX11_at_7 (by decide) (fun q2 => ?_) (fun q2 => ?_)
    · replace hrun := if_t q2 hrun
      refine lv_iconst (v := 0) hx hb dX11_at_16 (by decide) ?_
      obtain rfl := Option.some.inj hrun
      exact k_reti C0 hP hD hS () rfl rfl dX11_at_17
    · replace hrun := if_f q2 hrun
      refine lv_aload_n hx hb dX11_at_10 rfl (lv_at hl 0 rfl) ?_
      refine lv_iload_n hx hb dX11_at_11 rfl (lv_at hl 1 rfl) ?_
      obtain ⟨gz3, hrun⟩ := gd_inv hrun
      refine va_iald hx hb hK hP 0 1 rfl rfl gz3 dX11_at_12 ?_
      refine lv_goto (tgt := 17) hx hb dX11_at_13 (by decide) ?_
      obtain rfl := Option.some.inj hrun
      exact k_reti C0 hP hD hS () rfl rfl dX11_at_17
abbrev rm_X11_set : Room := { frames := 0, cells := 0, slots := 0, locals := 0 }
theorem e_X11_set : yX11_set.cls = RX11 ∧ yX11_set.cls ≠ "java/lang/invoke/MethodHandle" ∧ yX11_set.cls ≠ "java/lang/invoke/VarHandle" ∧ (parseMethodDescriptor yX11_set.desc).map (fun d => d.parameters.length) = some 3 := by decide +kernel
set_option maxHeartbeats 4000000 in
set_option maxRecDepth 100000 in
theorem c_X11_set {l : Launch} {G : k_G} {h_a0 n_a0 : Nat} {sz : Nat} {p1 : Int32} {p2 : Int32} {w_a0 : Nat → Int32} {out : (Nat → Int32)} (hrun : f_X11_set n_a0 p1 p2 w_a0 = some out) : k_Cv l G yX11_set wsX11_set rm_X11_set [.ref h_a0, .int p1, .int p2] [(h_a0, .inl (k_cI G, n_a0, .inl w_a0))] sz (fun (_ : Unit) => [(h_a0, .inl (k_cI G, n_a0, .inl out))]) 0 0 := by
  refine k_of (cc := cX11_set) (nL := 3) (ret := none) (own := RX11) (nm := "set") (by decide) rfl rfl rfl rfl ?_
  intro p e s m args below meth c ls hsz C0 hP hD hS hl
  have hl : lv_has ls 3 [(0, .ref h_a0), (1, .int p1), (2, .int p2)] := hl
  generalize hH : s.heap = H at hP
  have hS : va_S (va_A [(h_a0, .inl (k_cI G, n_a0, .inl w_a0))] sz) s.heap H [] := by rw [← hH]; exact hS
  clear hH
  generalize va_A [(h_a0, .inl (k_cI G, n_a0, .inl w_a0))] sz = A at C0 hD hS ⊢
  have hx := C0.1
  have hb := C0.2.1
  have hts := C0.2.2.2.1
  have hown := C0.2.2.2.2.1
  have hK := C0.2.2.2.2.2.2.2.2.1.1
  have hNW := C0.2.2.2.2.2.2.2.2.1.2.1
  have hSF := C0.2.2.2.2.2.2.2.2.1.2.2
  rw [f_X11_set] at hrun
  refine lv_iload_n hx hb dX11_set_0 rfl (lv_at hl 1 rfl) ?_
  refine lv_if_lt (tgt := 14) hx hb dX11_set_1 (by decide) (fun q1 => ?_) (fun q1 => ?_)
  · replace hrun := if_t q1 hrun
    obtain rfl := Option.some.inj hrun
    exact k_retv C0 hP hD hS () rfl dX11_set_14
  · replace hrun := if_f q1 hrun
    refine lv_iload_n hx hb dX11_set_4 rfl (lv_at hl 1 rfl) ?_
    refine lv_aload_n hx hb dX11_set_5 rfl (lv_at hl 0 rfl) ?_
    refine va_alen (v := Int32.ofNat n_a0) hx hb hK hP 0 1 rfl rfl rfl dX11_set_6 ?_
    refine lv_icmp_ge (tgt := 14) hx hb dX11_set_7 (by decide) (fun q2 => ?_) (fun q2 => ?_)
    · replace hrun := if_t q2 hrun
      obtain rfl := Option.some.inj hrun
      exact k_retv C0 hP hD hS () rfl dX11_set_14
    · replace hrun := if_f q2 hrun
      refine lv_aload_n hx hb dX11_set_10 rfl (lv_at hl 0 rfl) ?_
      refine lv_iload_n hx hb dX11_set_11 rfl (lv_at hl 1 rfl) ?_
      refine lv_iload_n hx hb dX11_set_12 rfl (lv_at hl 2 rfl) ?_
      obtain ⟨gz3, hrun⟩ := gd_inv hrun
      obtain ⟨w4, ew, hrun⟩ := lt_inv hrun
      refine va_iast hx hb hK hP hD hS 0 1 rfl rfl gz3 dX11_set_13 (fun H locs hP hD hS => ?_)
      have hP : va_P G.1 vwCl [(h_a0, .inl (k_cI G, n_a0, .inl w4))] H := by rw [ew]; exact hP
      have hD : va_D A [(h_a0, .inl (k_cI G, n_a0, .inl w4))] := by rw [ew]; exact hD
      clear ew
      obtain rfl := Option.some.inj hrun
      exact k_retv C0 hP hD hS () rfl dX11_set_14
theorem u_X9_init_1 : (Cond.methodLink RX9 3 objectInit) ∈ wsX9_init := List.mem_of_getElem? (i := 1) (by decide +kernel)
theorem u_X9_init_2 : (Cond.instanceMethod objectInit) ∈ wsX9_init := List.mem_of_getElem? (i := 2) (by decide +kernel)
theorem u_X9_init_3 : (Cond.code objectInit ⟨#[0xb1]⟩ 1 none) ∈ wsX9_init := List.mem_of_getElem? (i := 3) (by decide +kernel)
theorem u_X9_init_4 : (Cond.arrayClass .int) ∈ wsX9_init := List.mem_of_getElem? (i := 4) (by decide +kernel)
theorem u_X9_init_5 : (Cond.fieldLink RX9 9 "ClosePacking$Stacks" "rows" "[I") ∈ wsX9_init := List.mem_of_getElem? (i := 5) (by decide +kernel)
theorem u_X9_init_6 : (Cond.fieldLink RX9 15 "ClosePacking$Stacks" "lengths" "[I") ∈ wsX9_init := List.mem_of_getElem? (i := 6) (by decide +kernel)
theorem n_X9_init_X9 : ∀ w ∈ u_ws RX9 TX9 3, w ∈ wsX9_init := by decide +kernel
abbrev rm_X9_init : Room := { frames := 1, cells := 2, slots := 10, locals := 20 }
theorem e_X9_init : yX9_init.cls = RX9 ∧ yX9_init.cls ≠ "java/lang/invoke/MethodHandle" ∧ yX9_init.cls ≠ "java/lang/invoke/VarHandle" ∧ (parseMethodDescriptor yX9_init.desc).map (fun d => d.parameters.length) = some 0 := by decide +kernel
set_option maxHeartbeats 4000000 in
set_option maxRecDepth 100000 in
theorem c_X9_init {l : Launch} {G : k_G} {h_t : Nat} {g_t_rows g_t_lengths g_t_count : Value} {sz : Nat} {out : Unit} (hrun : f_X9_init  = some out) : k_Cv l G yX9_init wsX9_init rm_X9_init [.ref h_t] [(h_t, .inr (6, [g_t_rows, g_t_lengths, g_t_count]))] sz (fun (u : Nat × Nat) => [(h_t, .inr (6, [.ref u.1, .ref u.2, g_t_count])), (u.1, .inl (k_cI G, 5, .inl (fun _ => 0))), (u.2, .inl (k_cI G, 5, .inl (fun _ => 0)))]) 2 10 := by
  refine k_of (cc := cX9_init) (nL := 1) (ret := none) (own := RX9) (nm := "<init>") (by decide) rfl rfl rfl rfl ?_
  intro p e s m args below meth c ls hsz C0 hP hD hS hl
  have hl : lv_has ls 1 [(0, .ref h_t)] := hl
  generalize hH : s.heap = H at hP
  have hS : va_S (va_A [(h_t, .inr (6, [g_t_rows, g_t_lengths, g_t_count]))] sz) s.heap H [] := by rw [← hH]; exact hS
  clear hH
  generalize va_A [(h_t, .inr (6, [g_t_rows, g_t_lengths, g_t_count]))] sz = A at C0 hD hS ⊢
  have hx := C0.1
  have hb := C0.2.1
  have hts := C0.2.2.2.1
  have hown := C0.2.2.2.2.1
  have hK := C0.2.2.2.2.2.2.2.2.1.1
  have hNW := C0.2.2.2.2.2.2.2.2.1.2.1
  have hSF := C0.2.2.2.2.2.2.2.2.1.2.2
  rw [f_X9_init] at hrun
  refine lv_aload_n hx hb dX9_init_0 rfl (lv_at hl 0 rfl) ?_
  refine W.objInit hx hb hown (hts _ u_X9_init_1) (hts _ u_X9_init_2) (hts _ u_X9_init_3) rfl (by rw [C0.2.2.2.2.2.2.1]; exact hl.1) rfl dX9_init_1 (Nat.le_of_ble_eq_true rfl) (Nat.le_of_ble_eq_true rfl) ?_
  refine W.eq (g2 := F0 m 4 ls []) rfl ?_
  refine lv_aload_n hx hb dX9_init_4 rfl (lv_at hl 0 rfl) ?_
  refine lv_iconst (v := 5) hx hb dX9_init_5 (by decide) ?_
  refine k_newa (atype := .int) (ty := .int) (a0 := (5, .inl (fun _ => 0))) C0 (hts _ u_X9_init_4) rfl 1 rfl (fun _ h9 => h9) hP hD hS (fun _ => rfl) (by decide) (by decide) (Nat.le_of_ble_eq_true rfl) (Nat.le_of_ble_eq_true rfl) (Nat.le_of_ble_eq_true rfl) dX9_init_6 (fun h_n6 H hP hD hS => ?_)
  have hP : va_P G.1 vwCl [(h_t, .inr (6, [g_t_rows, g_t_lengths, g_t_count])), (h_n6, .inl (k_cI G, 5, .inl (fun _ => 0)))] H := hP
  have hD : va_D A [(h_t, .inr (6, [g_t_rows, g_t_lengths, g_t_count])), (h_n6, .inl (k_cI G, 5, .inl (fun _ => 0)))] := hD
  refine W.widen (k := 1) (n := 5) (Nat.le_of_ble_eq_true rfl) (Nat.le_of_ble_eq_true rfl) ?_
  refine va_putF (D := G.1) (ci := 6) (v := .ref h_n6) (ty := (tyX9 0)) (C := RX9) (T := TX9) (N := 3) hx hb hts n_X9_init_X9 tyX9 tyX9_ok nmX9 hown hK hP hD hS 0 rfl rfl 0 (by decide) (hts _ u_X9_init_5) (fun _ h9 => h9) rfl C0.2.2.2.2.2.2.2.2.2 rfl (by decide +kernel) rfl rfl (Nat.le_of_ble_eq_true rfl) dX9_init_8 (fun H locs hP hD hS => ?_)
  have hP : va_P G.1 vwCl [(h_t, .inr (6, [.ref h_n6, g_t_lengths, g_t_count])), (h_n6, .inl (k_cI G, 5, .inl (fun _ => 0)))] H := hP
  have hD : va_D A [(h_t, .inr (6, [.ref h_n6, g_t_lengths, g_t_count])), (h_n6, .inl (k_cI G, 5, .inl (fun _ => 0)))] := hD
  refine lv_aload_n hx hb dX9_init_11 rfl (lv_at hl 0 rfl) ?_
  refine lv_iconst (v := 5) hx hb dX9_init_12 (by decide) ?_
  refine k_newa (atype := .int) (ty := .int) (a0 := (5, .inl (fun _ => 0))) C0 (hts _ u_X9_init_4) rfl 1 rfl (fun _ h9 => h9) hP hD hS (fun _ => rfl) (by decide) (by decide) (Nat.le_of_ble_eq_true rfl) (Nat.le_of_ble_eq_true rfl) (Nat.le_of_ble_eq_true rfl) dX9_init_13 (fun h_n13 H hP hD hS => ?_)
  have hP : va_P G.1 vwCl [(h_t, .inr (6, [.ref h_n6, g_t_lengths, g_t_count])), (h_n6, .inl (k_cI G, 5, .inl (fun _ => 0))), (h_n13, .inl (k_cI G, 5, .inl (fun _ => 0)))] H := hP
  have hD : va_D A [(h_t, .inr (6, [.ref h_n6, g_t_lengths, g_t_count])), (h_n6, .inl (k_cI G, 5, .inl (fun _ => 0))), (h_n13, .inl (k_cI G, 5, .inl (fun _ => 0)))] := hD
  refine W.widen (k := 2) (n := 10) (Nat.le_of_ble_eq_true rfl) (Nat.le_of_ble_eq_true rfl) ?_
  refine va_putF (D := G.1) (ci := 6) (v := .ref h_n13) (ty := (tyX9 1)) (C := RX9) (T := TX9) (N := 3) hx hb hts n_X9_init_X9 tyX9 tyX9_ok nmX9 hown hK hP hD hS 0 rfl rfl 1 (by decide) (hts _ u_X9_init_6) (fun _ h9 => h9) rfl C0.2.2.2.2.2.2.2.2.2 rfl (by decide +kernel) rfl rfl (Nat.le_of_ble_eq_true rfl) dX9_init_15 (fun H locs hP hD hS => ?_)
  have hP : va_P G.1 vwCl [(h_t, .inr (6, [.ref h_n6, .ref h_n13, g_t_count])), (h_n6, .inl (k_cI G, 5, .inl (fun _ => 0))), (h_n13, .inl (k_cI G, 5, .inl (fun _ => 0)))] H := hP
  have hD : va_D A [(h_t, .inr (6, [.ref h_n6, .ref h_n13, g_t_count])), (h_n6, .inl (k_cI G, 5, .inl (fun _ => 0))), (h_n13, .inl (k_cI G, 5, .inl (fun _ => 0)))] := hD
  obtain rfl := Option.some.inj hrun
  exact k_retv C0 hP hD hS (h_n6, h_n13) rfl dX9_init_18
theorem u_X9_row_1 : (Cond.fieldLink RX9 9 "ClosePacking$Stacks" "rows" "[I") ∈ wsX9_row := List.mem_of_getElem? (i := 1) (by decide +kernel)
theorem u_X9_row_2 : (Cond.static yX11_at) ∈ wsX9_row := List.mem_of_getElem? (i := 2) (by decide +kernel)
theorem u_X9_row_3 : (Cond.initialized RX11) ∈ wsX9_row := List.mem_of_getElem? (i := 3) (by decide +kernel)
theorem n_X9_row_X9 : ∀ w ∈ u_ws RX9 TX9 3, w ∈ wsX9_row := by decide +kernel
theorem nw_X9_row_19 : k_nest[19]? = some (.methodLinkNest RX9 18 yX11_at "ClosePacking") := rfl
abbrev rm_X9_row : Room := { frames := 1, cells := 0, slots := 0, locals := 21 }
theorem e_X9_row : yX9_row.cls = RX9 ∧ yX9_row.cls ≠ "java/lang/invoke/MethodHandle" ∧ yX9_row.cls ≠ "java/lang/invoke/VarHandle" ∧ (parseMethodDescriptor yX9_row.desc).map (fun d => d.parameters.length) = some 1 := by decide +kernel
set_option maxHeartbeats 4000000 in
set_option maxRecDepth 100000 in
theorem c_X9_row {l : Launch} {G : k_G} {h_t h_t_rows : Nat} {g_t_lengths g_t_count : Value} {sz : Nat} {p1 : Int32} {w_t_rows : Nat → Int32} {out : Int32} (hrun : f_X9_row p1 w_t_rows = some out) : k_Ci l G yX9_row wsX9_row rm_X9_row [.ref h_t, .int p1] [(h_t, .inr (6, [.ref h_t_rows, g_t_lengths, g_t_count])), (h_t_rows, .inl (k_cI G, 5, .inl w_t_rows))] sz out (fun (_ : Unit) => [(h_t, .inr (6, [.ref h_t_rows, g_t_lengths, g_t_count])), (h_t_rows, .inl (k_cI G, 5, .inl w_t_rows))]) 0 0 := by
  refine k_of (cc := cX9_row) (nL := 2) (ret := some .int) (own := RX9) (nm := "row") (by decide) rfl rfl rfl rfl ?_
  intro p e s m args below meth c ls hsz C0 hP hD hS hl
  have hl : lv_has ls 2 [(0, .ref h_t), (1, .int p1)] := hl
  generalize hH : s.heap = H at hP
  have hS : va_S (va_A [(h_t, .inr (6, [.ref h_t_rows, g_t_lengths, g_t_count])), (h_t_rows, .inl (k_cI G, 5, .inl w_t_rows))] sz) s.heap H [] := by rw [← hH]; exact hS
  clear hH
  generalize va_A [(h_t, .inr (6, [.ref h_t_rows, g_t_lengths, g_t_count])), (h_t_rows, .inl (k_cI G, 5, .inl w_t_rows))] sz = A at C0 hD hS ⊢
  have hx := C0.1
  have hb := C0.2.1
  have hts := C0.2.2.2.1
  have hown := C0.2.2.2.2.1
  have hK := C0.2.2.2.2.2.2.2.2.1.1
  have hNW := C0.2.2.2.2.2.2.2.2.1.2.1
  have hSF := C0.2.2.2.2.2.2.2.2.1.2.2
  rw [f_X9_row] at hrun
  refine lv_aload_n hx hb dX9_row_0 rfl (lv_at hl 0 rfl) ?_
  refine va_get (D := G.1) (ci := 6) (v := .ref h_t_rows) (C := RX9) (T := TX9) (N := 3) hx hb hts n_X9_row_X9 hown hK hP 0 rfl rfl 0 (by decide) (hts _ u_X9_row_1) (fun _ h9 => h9) rfl dX9_row_1 ?_
  refine lv_iload_n hx hb dX9_row_4 rfl (lv_at hl 1 rfl) ?_
  obtain ⟨t1, et1, hrun⟩ := bd_inv hrun
  refine k_calli (w2 := fun (_ : Unit) => [(h_t, .inr (6, [.ref h_t_rows, g_t_lengths, g_t_count])), (h_t_rows, .inl (k_cI G, 5, .inl w_t_rows))]) C0 (k_runSN (rest := []) C0 (c_X11_at et1) (va_cnB 2 hts gX9_row_X11_at_n18 rfl rfl rfl (k_nw hNW 19 nw_X9_row_19) (hts _ u_X9_row_3) e_X11_at.2 ⟨Nat.le_of_ble_eq_true rfl, Nat.le_of_ble_eq_true rfl⟩) (hts _ u_X9_row_2) hP hD hS [1] rfl (by decide) rfl hl.1 rfl (Nat.le_of_ble_eq_true rfl) dX9_row_5 ⟨Nat.le_of_ble_eq_true rfl, Nat.le_of_ble_eq_true rfl⟩) hP hD hS [1] [0] rfl rfl (by decide) (by decide) [0, 1] (by decide) (fun _ => rfl) (fun _ H locs hP hD hS => ?_)
  have hP : va_P G.1 vwCl [(h_t, .inr (6, [.ref h_t_rows, g_t_lengths, g_t_count])), (h_t_rows, .inl (k_cI G, 5, .inl w_t_rows))] H := hP
  have hD : va_D A [(h_t, .inr (6, [.ref h_t_rows, g_t_lengths, g_t_count])), (h_t_rows, .inl (k_cI G, 5, .inl w_t_rows))] := hD
  obtain rfl := Option.some.inj hrun
  exact k_reti C0 hP hD hS () rfl rfl dX9_row_8
theorem u_X9_steps_1 : (Cond.fieldLink RX9 15 "ClosePacking$Stacks" "lengths" "[I") ∈ wsX9_steps := List.mem_of_getElem? (i := 1) (by decide +kernel)
theorem u_X9_steps_2 : (Cond.static yX11_at) ∈ wsX9_steps := List.mem_of_getElem? (i := 2) (by decide +kernel)
theorem u_X9_steps_3 : (Cond.initialized RX11) ∈ wsX9_steps := List.mem_of_getElem? (i := 3) (by decide +kernel)
theorem n_X9_steps_X9 : ∀ w ∈ u_ws RX9 TX9 3, w ∈ wsX9_steps := by decide +kernel
theorem nw_X9_steps_19 : k_nest[19]? = some (.methodLinkNest RX9 18 yX11_at "ClosePacking") := rfl
abbrev rm_X9_steps : Room := { frames := 1, cells := 0, slots := 0, locals := 21 }
theorem e_X9_steps : yX9_steps.cls = RX9 ∧ yX9_steps.cls ≠ "java/lang/invoke/MethodHandle" ∧ yX9_steps.cls ≠ "java/lang/invoke/VarHandle" ∧ (parseMethodDescriptor yX9_steps.desc).map (fun d => d.parameters.length) = some 1 := by decide +kernel
set_option maxHeartbeats 4000000 in
set_option maxRecDepth 100000 in
theorem c_X9_steps {l : Launch} {G : k_G} {h_t h_t_lengths : Nat} {g_t_rows g_t_count : Value} {sz : Nat} {p1 : Int32} {w_t_lengths : Nat → Int32} {out : Int32} (hrun : f_X9_steps p1 w_t_lengths = some out) : k_Ci l G yX9_steps wsX9_steps rm_X9_steps [.ref h_t, .int p1] [(h_t, .inr (6, [g_t_rows, .ref h_t_lengths, g_t_count])), (h_t_lengths, .inl (k_cI G, 5, .inl w_t_lengths))] sz out (fun (_ : Unit) => [(h_t, .inr (6, [g_t_rows, .ref h_t_lengths, g_t_count])), (h_t_lengths, .inl (k_cI G, 5, .inl w_t_lengths))]) 0 0 := by
  refine k_of (cc := cX9_steps) (nL := 2) (ret := some .int) (own := RX9) (nm := "steps") (by decide) rfl rfl rfl rfl ?_
  intro p e s m args below meth c ls hsz C0 hP hD hS hl
  have hl : lv_has ls 2 [(0, .ref h_t), (1, .int p1)] := hl
  generalize hH : s.heap = H at hP
  have hS : va_S (va_A [(h_t, .inr (6, [g_t_rows, .ref h_t_lengths, g_t_count])), (h_t_lengths, .inl (k_cI G, 5, .inl w_t_lengths))] sz) s.heap H [] := by rw [← hH]; exact hS
  clear hH
  generalize va_A [(h_t, .inr (6, [g_t_rows, .ref h_t_lengths, g_t_count])), (h_t_lengths, .inl (k_cI G, 5, .inl w_t_lengths))] sz = A at C0 hD hS ⊢
  have hx := C0.1
  have hb := C0.2.1
  have hts := C0.2.2.2.1
  have hown := C0.2.2.2.2.1
  have hK := C0.2.2.2.2.2.2.2.2.1.1
  have hNW := C0.2.2.2.2.2.2.2.2.1.2.1
  have hSF := C0.2.2.2.2.2.2.2.2.1.2.2
  rw [f_X9_steps] at hrun
  refine lv_aload_n hx hb dX9_steps_0 rfl (lv_at hl 0 rfl) ?_
  refine va_get (D := G.1) (ci := 6) (v := .ref h_t_lengths) (C := RX9) (T := TX9) (N := 3) hx hb hts n_X9_steps_X9 hown hK hP 0 rfl rfl 1 (by decide) (hts _ u_X9_steps_1) (fun _ h9 => h9) rfl dX9_steps_1 ?_
  refine lv_iload_n hx hb dX9_steps_4 rfl (lv_at hl 1 rfl) ?_
  obtain ⟨t1, et1, hrun⟩ := bd_inv hrun
  refine k_calli (w2 := fun (_ : Unit) => [(h_t, .inr (6, [g_t_rows, .ref h_t_lengths, g_t_count])), (h_t_lengths, .inl (k_cI G, 5, .inl w_t_lengths))]) C0 (k_runSN (rest := []) C0 (c_X11_at et1) (va_cnB 2 hts gX9_steps_X11_at_n18 rfl rfl rfl (k_nw hNW 19 nw_X9_steps_19) (hts _ u_X9_steps_3) e_X11_at.2 ⟨Nat.le_of_ble_eq_true rfl, Nat.le_of_ble_eq_true rfl⟩) (hts _ u_X9_steps_2) hP hD hS [1] rfl (by decide) rfl hl.1 rfl (Nat.le_of_ble_eq_true rfl) dX9_steps_5 ⟨Nat.le_of_ble_eq_true rfl, Nat.le_of_ble_eq_true rfl⟩) hP hD hS [1] [0] rfl rfl (by decide) (by decide) [0, 1] (by decide) (fun _ => rfl) (fun _ H locs hP hD hS => ?_)
  have hP : va_P G.1 vwCl [(h_t, .inr (6, [g_t_rows, .ref h_t_lengths, g_t_count])), (h_t_lengths, .inl (k_cI G, 5, .inl w_t_lengths))] H := hP
  have hD : va_D A [(h_t, .inr (6, [g_t_rows, .ref h_t_lengths, g_t_count])), (h_t_lengths, .inl (k_cI G, 5, .inl w_t_lengths))] := hD
  obtain rfl := Option.some.inj hrun
  exact k_reti C0 hP hD hS () rfl rfl dX9_steps_8
theorem u_X9_put_1 : (Cond.fieldLink RX9 9 "ClosePacking$Stacks" "rows" "[I") ∈ wsX9_put := List.mem_of_getElem? (i := 1) (by decide +kernel)
theorem u_X9_put_2 : (Cond.fieldLink RX9 15 "ClosePacking$Stacks" "lengths" "[I") ∈ wsX9_put := List.mem_of_getElem? (i := 2) (by decide +kernel)
theorem u_X9_put_3 : (Cond.static yX11_set) ∈ wsX9_put := List.mem_of_getElem? (i := 3) (by decide +kernel)
theorem u_X9_put_4 : (Cond.initialized RX11) ∈ wsX9_put := List.mem_of_getElem? (i := 4) (by decide +kernel)
theorem n_X9_put_X9 : ∀ w ∈ u_ws RX9 TX9 3, w ∈ wsX9_put := by decide +kernel
theorem nw_X9_put_20 : k_nest[20]? = some (.methodLinkNest RX9 22 yX11_set "ClosePacking") := rfl
abbrev rm_X9_put : Room := { frames := 1, cells := 0, slots := 0, locals := 22 }
theorem e_X9_put : yX9_put.cls = RX9 ∧ yX9_put.cls ≠ "java/lang/invoke/MethodHandle" ∧ yX9_put.cls ≠ "java/lang/invoke/VarHandle" ∧ (parseMethodDescriptor yX9_put.desc).map (fun d => d.parameters.length) = some 3 := by decide +kernel
set_option maxHeartbeats 4000000 in
set_option maxRecDepth 100000 in
theorem c_X9_put {l : Launch} {G : k_G} {h_t h_t_lengths h_t_rows : Nat} {g_t_count : Value} {sz : Nat} {p1 : Int32} {p2 : Int32} {p3 : Int32} {w_t_lengths : Nat → Int32} {w_t_rows : Nat → Int32} {out : (Nat → Int32) × (Nat → Int32)} (hrun : f_X9_put p1 p2 p3 w_t_lengths w_t_rows = some out) : k_Cv l G yX9_put wsX9_put rm_X9_put [.ref h_t, .int p1, .int p2, .int p3] [(h_t, .inr (6, [.ref h_t_rows, .ref h_t_lengths, g_t_count])), (h_t_lengths, .inl (k_cI G, 5, .inl w_t_lengths)), (h_t_rows, .inl (k_cI G, 5, .inl w_t_rows))] sz (fun (_ : Unit) => [(h_t, .inr (6, [.ref h_t_rows, .ref h_t_lengths, g_t_count])), (h_t_lengths, .inl (k_cI G, 5, .inl out.1)), (h_t_rows, .inl (k_cI G, 5, .inl out.2))]) 0 0 := by
  refine k_of (cc := cX9_put) (nL := 4) (ret := none) (own := RX9) (nm := "put") (by decide) rfl rfl rfl rfl ?_
  intro p e s m args below meth c ls hsz C0 hP hD hS hl
  have hl : lv_has ls 4 [(0, .ref h_t), (1, .int p1), (2, .int p2), (3, .int p3)] := hl
  generalize hH : s.heap = H at hP
  have hS : va_S (va_A [(h_t, .inr (6, [.ref h_t_rows, .ref h_t_lengths, g_t_count])), (h_t_lengths, .inl (k_cI G, 5, .inl w_t_lengths)), (h_t_rows, .inl (k_cI G, 5, .inl w_t_rows))] sz) s.heap H [] := by rw [← hH]; exact hS
  clear hH
  generalize va_A [(h_t, .inr (6, [.ref h_t_rows, .ref h_t_lengths, g_t_count])), (h_t_lengths, .inl (k_cI G, 5, .inl w_t_lengths)), (h_t_rows, .inl (k_cI G, 5, .inl w_t_rows))] sz = A at C0 hD hS ⊢
  have hx := C0.1
  have hb := C0.2.1
  have hts := C0.2.2.2.1
  have hown := C0.2.2.2.2.1
  have hK := C0.2.2.2.2.2.2.2.2.1.1
  have hNW := C0.2.2.2.2.2.2.2.2.1.2.1
  have hSF := C0.2.2.2.2.2.2.2.2.1.2.2
  rw [f_X9_put] at hrun
  refine lv_aload_n hx hb dX9_put_0 rfl (lv_at hl 0 rfl) ?_
  refine va_get (D := G.1) (ci := 6) (v := .ref h_t_rows) (C := RX9) (T := TX9) (N := 3) hx hb hts n_X9_put_X9 hown hK hP 0 rfl rfl 0 (by decide) (hts _ u_X9_put_1) (fun _ h9 => h9) rfl dX9_put_1 ?_
  refine lv_iload_n hx hb dX9_put_4 rfl (lv_at hl 1 rfl) ?_
  refine lv_iload_n hx hb dX9_put_5 rfl (lv_at hl 2 rfl) ?_
  obtain ⟨t1, et1, hrun⟩ := bd_inv hrun
  refine k_callv (w2 := fun (_ : Unit) => [(h_t, .inr (6, [.ref h_t_rows, .ref h_t_lengths, g_t_count])), (h_t_lengths, .inl (k_cI G, 5, .inl w_t_lengths)), (h_t_rows, .inl (k_cI G, 5, .inl t1))]) C0 (k_runSN (rest := []) C0 (c_X11_set et1) (va_cnB 3 hts gX9_put_X11_set_n22 rfl rfl rfl (k_nw hNW 20 nw_X9_put_20) (hts _ u_X9_put_4) e_X11_set.2 ⟨Nat.le_of_ble_eq_true rfl, Nat.le_of_ble_eq_true rfl⟩) (hts _ u_X9_put_3) hP hD hS [2] rfl (by decide) rfl hl.1 rfl (Nat.le_of_ble_eq_true rfl) dX9_put_6 ⟨Nat.le_of_ble_eq_true rfl, Nat.le_of_ble_eq_true rfl⟩) hP hD hS [2] [0, 1] rfl rfl (by decide) (by decide) [0, 1, 2] (by decide) (fun _ => rfl) (fun _ H locs hP hD hS => ?_)
  have hP : va_P G.1 vwCl [(h_t, .inr (6, [.ref h_t_rows, .ref h_t_lengths, g_t_count])), (h_t_lengths, .inl (k_cI G, 5, .inl w_t_lengths)), (h_t_rows, .inl (k_cI G, 5, .inl t1))] H := hP
  have hD : va_D A [(h_t, .inr (6, [.ref h_t_rows, .ref h_t_lengths, g_t_count])), (h_t_lengths, .inl (k_cI G, 5, .inl w_t_lengths)), (h_t_rows, .inl (k_cI G, 5, .inl t1))] := hD
  refine lv_aload_n hx hb dX9_put_9 rfl (lv_at hl 0 rfl) ?_
  refine va_get (D := G.1) (ci := 6) (v := .ref h_t_lengths) (C := RX9) (T := TX9) (N := 3) hx hb hts n_X9_put_X9 hown hK hP 0 rfl rfl 1 (by decide) (hts _ u_X9_put_2) (fun _ h9 => h9) rfl dX9_put_10 ?_
  refine lv_iload_n hx hb dX9_put_13 rfl (lv_at hl 1 rfl) ?_
  refine lv_iload_n hx hb dX9_put_14 rfl (lv_at hl 3 rfl) ?_
  obtain ⟨t2, et2, hrun⟩ := bd_inv hrun
  refine k_callv (w2 := fun (_ : Unit) => [(h_t, .inr (6, [.ref h_t_rows, .ref h_t_lengths, g_t_count])), (h_t_lengths, .inl (k_cI G, 5, .inl t2)), (h_t_rows, .inl (k_cI G, 5, .inl t1))]) C0 (k_runSN (rest := []) C0 (c_X11_set et2) (va_cnB 3 hts gX9_put_X11_set_n22 rfl rfl rfl (k_nw hNW 20 nw_X9_put_20) (hts _ u_X9_put_4) e_X11_set.2 ⟨Nat.le_of_ble_eq_true rfl, Nat.le_of_ble_eq_true rfl⟩) (hts _ u_X9_put_3) hP hD hS [1] rfl (by decide) rfl hl.1 rfl (Nat.le_of_ble_eq_true rfl) dX9_put_15 ⟨Nat.le_of_ble_eq_true rfl, Nat.le_of_ble_eq_true rfl⟩) hP hD hS [1] [0, 2] rfl rfl (by decide) (by decide) [0, 2, 1] (by decide) (fun _ => rfl) (fun _ H locs hP hD hS => ?_)
  have hP : va_P G.1 vwCl [(h_t, .inr (6, [.ref h_t_rows, .ref h_t_lengths, g_t_count])), (h_t_lengths, .inl (k_cI G, 5, .inl t2)), (h_t_rows, .inl (k_cI G, 5, .inl t1))] H := hP
  have hD : va_D A [(h_t, .inr (6, [.ref h_t_rows, .ref h_t_lengths, g_t_count])), (h_t_lengths, .inl (k_cI G, 5, .inl t2)), (h_t_rows, .inl (k_cI G, 5, .inl t1))] := hD
  obtain rfl := Option.some.inj hrun
  exact k_retv C0 hP hD hS () rfl dX9_put_18
theorem u_X9_copy_1 : (Cond.fieldLink RX9 26 "ClosePacking$Stacks" "count" "I") ∈ wsX9_copy := List.mem_of_getElem? (i := 1) (by decide +kernel)
theorem n_X9_copy_X9 : ∀ w ∈ u_ws RX9 TX9 3, w ∈ wsX9_copy := by decide +kernel
abbrev rm_X9_copy : Room := { frames := 2, cells := 0, slots := 0, locals := 45 }
theorem e_X9_copy : yX9_copy.cls = RX9 ∧ yX9_copy.cls ≠ "java/lang/invoke/MethodHandle" ∧ yX9_copy.cls ≠ "java/lang/invoke/VarHandle" ∧ (parseMethodDescriptor yX9_copy.desc).map (fun d => d.parameters.length) = some 1 := by decide +kernel
set_option maxHeartbeats 4000000 in
set_option maxRecDepth 100000 in
theorem t_X9_copy_10 {l : Launch} {G : k_G} {p : Program} {e : Env} {s : State} {m : MethodId} {args : Array Value} {below : List Frame} {meth : Method} {c : Code} {A : Nat → Prop} {h_a1 h_a1_lengths h_a1_rows h_t h_t_lengths h_t_rows : Nat} {out : Int32 × (Nat → Int32) × (Nat → Int32)} (C0 : k_C G p s m args meth c A cX9_copy RX9 wsX9_copy 3 none "copy") : ∀ (n : Nat) (x2 : Int32) (v_a1_count : Int32) (v_t_count : Int32) (w_a1_lengths : Nat → Int32) (w_a1_rows : Nat → Int32) (w_t_lengths : Nat → Int32) (w_t_rows : Nat → Int32) (H : Heap) (locs : List Loc) (ls : Array Slot), va_P G.1 vwCl [(h_a1, .inr (6, [.ref h_a1_rows, .ref h_a1_lengths, .int v_a1_count])), (h_a1_lengths, .inl (k_cI G, 5, .inl w_a1_lengths)), (h_a1_rows, .inl (k_cI G, 5, .inl w_a1_rows)), (h_t, .inr (6, [.ref h_t_rows, .ref h_t_lengths, .int v_t_count])), (h_t_lengths, .inl (k_cI G, 5, .inl w_t_lengths)), (h_t_rows, .inl (k_cI G, 5, .inl w_t_rows))] H → va_D A [(h_a1, .inr (6, [.ref h_a1_rows, .ref h_a1_lengths, .int v_a1_count])), (h_a1_lengths, .inl (k_cI G, 5, .inl w_a1_lengths)), (h_a1_rows, .inl (k_cI G, 5, .inl w_a1_rows)), (h_t, .inr (6, [.ref h_t_rows, .ref h_t_lengths, .int v_t_count])), (h_t_lengths, .inl (k_cI G, 5, .inl w_t_lengths)), (h_t_rows, .inl (k_cI G, 5, .inl w_t_rows))] → va_S A s.heap H locs → lv_has ls 3 [(0, .ref h_t), (1, .ref h_a1), (2, .int x2)] → f_X9_copy_10 n x2 v_a1_count v_t_count w_a1_lengths w_a1_rows w_t_lengths w_t_rows = some out → W p l e rm_X9_copy s m args below meth c H locs 0 0 (MQ below (k_Qv G A (fun (_ : Unit) => [(h_a1, .inr (6, [.ref h_a1_rows, .ref h_a1_lengths, .int v_a1_count])), (h_a1_lengths, .inl (k_cI G, 5, .inl w_a1_lengths)), (h_a1_rows, .inl (k_cI G, 5, .inl w_a1_rows)), (h_t, .inr (6, [.ref h_t_rows, .ref h_t_lengths, .int out.1])), (h_t_lengths, .inl (k_cI G, 5, .inl out.2.1)), (h_t_rows, .inl (k_cI G, 5, .inl out.2.2))])) args s 0 0 A) (F0 m 10 ls []) := by
  have hx := C0.1
  have hb := C0.2.1
  have hts := C0.2.2.2.1
  have hown := C0.2.2.2.2.1
  have hK := C0.2.2.2.2.2.2.2.2.1.1
  have hNW := C0.2.2.2.2.2.2.2.2.1.2.1
  have hSF := C0.2.2.2.2.2.2.2.2.1.2.2
  intro n
  induction n with
  | zero =>
    intro x2 v_a1_count v_t_count w_a1_lengths w_a1_rows w_t_lengths w_t_rows H locs ls hP hD hS hl hrun
    rw [f_X9_copy_10] at hrun
    cases hrun
  | succ n ih =>
    intro x2 v_a1_count v_t_count w_a1_lengths w_a1_rows w_t_lengths w_t_rows H locs ls hP hD hS hl hrun
    rw [f_X9_copy_10] at hrun
    refine lv_iload_n hx hb dX9_copy_10 rfl (lv_at hl 2 rfl) ?_
    refine lv_iconst (v := 5) hx hb dX9_copy_11 (by decide) ?_
    refine lv_icmp_ge (tgt := 36) hx hb dX9_copy_12 (by decide) (fun q1 => ?_) (fun q1 => ?_)
    · replace hrun := if_t q1 hrun
      obtain rfl := Option.some.inj hrun
      exact k_retv C0 hP hD hS () rfl dX9_copy_36
    · replace hrun := if_f q1 hrun
      refine lv_aload_n hx hb dX9_copy_15 rfl (lv_at hl 0 rfl) ?_
      refine lv_iload_n hx hb dX9_copy_16 rfl (lv_at hl 2 rfl) ?_
      refine lv_aload_n hx hb dX9_copy_17 rfl (lv_at hl 1 rfl) ?_
      refine lv_iload_n hx hb dX9_copy_18 rfl (lv_at hl 2 rfl) ?_
      obtain ⟨t2, et2, hrun⟩ := bd_inv hrun
      refine k_calli (w2 := fun (_ : Unit) => [(h_a1, .inr (6, [.ref h_a1_rows, .ref h_a1_lengths, .int v_a1_count])), (h_a1_lengths, .inl (k_cI G, 5, .inl w_a1_lengths)), (h_a1_rows, .inl (k_cI G, 5, .inl w_a1_rows)), (h_t, .inr (6, [.ref h_t_rows, .ref h_t_lengths, .int v_t_count])), (h_t_lengths, .inl (k_cI G, 5, .inl w_t_lengths)), (h_t_rows, .inl (k_cI G, 5, .inl w_t_rows))]) C0 (k_runV (rest := [.int x2, .ref h_t]) C0 (c_X9_row et2) (cwV 1 hts gX9_copy_X9_row rfl rfl rfl e_X9_row ⟨Nat.le_of_ble_eq_true rfl, Nat.le_of_ble_eq_true rfl⟩) hP hD hS [0, 2] rfl (by decide) 0 (qc := (RX9, TX9, 3)) rfl rfl rfl rfl hl.1 rfl (Nat.le_of_ble_eq_true rfl) dX9_copy_19 ⟨Nat.le_of_ble_eq_true rfl, Nat.le_of_ble_eq_true rfl⟩) hP hD hS [0, 2] [1, 3, 4, 5] rfl rfl (by decide) (by decide) [4, 0, 5, 1, 2, 3] (by decide) (fun _ => rfl) (fun _ H locs hP hD hS => ?_)
      have hP : va_P G.1 vwCl [(h_a1, .inr (6, [.ref h_a1_rows, .ref h_a1_lengths, .int v_a1_count])), (h_a1_lengths, .inl (k_cI G, 5, .inl w_a1_lengths)), (h_a1_rows, .inl (k_cI G, 5, .inl w_a1_rows)), (h_t, .inr (6, [.ref h_t_rows, .ref h_t_lengths, .int v_t_count])), (h_t_lengths, .inl (k_cI G, 5, .inl w_t_lengths)), (h_t_rows, .inl (k_cI G, 5, .inl w_t_rows))] H := hP
      have hD : va_D A [(h_a1, .inr (6, [.ref h_a1_rows, .ref h_a1_lengths, .int v_a1_count])), (h_a1_lengths, .inl (k_cI G, 5, .inl w_a1_lengths)), (h_a1_rows, .inl (k_cI G, 5, .inl w_a1_rows)), (h_t, .inr (6, [.ref h_t_rows, .ref h_t_lengths, .int v_t_count])), (h_t_lengths, .inl (k_cI G, 5, .inl w_t_lengths)), (h_t_rows, .inl (k_cI G, 5, .inl w_t_rows))] := hD
      refine lv_aload_n hx hb dX9_copy_22 rfl (lv_at hl 1 rfl) ?_
      refine lv_iload_n hx hb dX9_copy_23 rfl (lv_at hl 2 rfl) ?_
      obtain ⟨t3, et3, hrun⟩ := bd_inv hrun
      refine k_calli (w2 := fun (_ : Unit) => [(h_a1, .inr (6, [.ref h_a1_rows, .ref h_a1_lengths, .int v_a1_count])), (h_a1_lengths, .inl (k_cI G, 5, .inl w_a1_lengths)), (h_a1_rows, .inl (k_cI G, 5, .inl w_a1_rows)), (h_t, .inr (6, [.ref h_t_rows, .ref h_t_lengths, .int v_t_count])), (h_t_lengths, .inl (k_cI G, 5, .inl w_t_lengths)), (h_t_rows, .inl (k_cI G, 5, .inl w_t_rows))]) C0 (k_runV (rest := [.int t2, .int x2, .ref h_t]) C0 (c_X9_steps et3) (cwV 1 hts gX9_copy_X9_steps rfl rfl rfl e_X9_steps ⟨Nat.le_of_ble_eq_true rfl, Nat.le_of_ble_eq_true rfl⟩) hP hD hS [0, 1] rfl (by decide) 0 (qc := (RX9, TX9, 3)) rfl rfl rfl rfl hl.1 rfl (Nat.le_of_ble_eq_true rfl) dX9_copy_24 ⟨Nat.le_of_ble_eq_true rfl, Nat.le_of_ble_eq_true rfl⟩) hP hD hS [0, 1] [2, 3, 4, 5] rfl rfl (by decide) (by decide) [4, 5, 0, 1, 2, 3] (by decide) (fun _ => rfl) (fun _ H locs hP hD hS => ?_)
      have hP : va_P G.1 vwCl [(h_a1, .inr (6, [.ref h_a1_rows, .ref h_a1_lengths, .int v_a1_count])), (h_a1_lengths, .inl (k_cI G, 5, .inl w_a1_lengths)), (h_a1_rows, .inl (k_cI G, 5, .inl w_a1_rows)), (h_t, .inr (6, [.ref h_t_rows, .ref h_t_lengths, .int v_t_count])), (h_t_lengths, .inl (k_cI G, 5, .inl w_t_lengths)), (h_t_rows, .inl (k_cI G, 5, .inl w_t_rows))] H := hP
      have hD : va_D A [(h_a1, .inr (6, [.ref h_a1_rows, .ref h_a1_lengths, .int v_a1_count])), (h_a1_lengths, .inl (k_cI G, 5, .inl w_a1_lengths)), (h_a1_rows, .inl (k_cI G, 5, .inl w_a1_rows)), (h_t, .inr (6, [.ref h_t_rows, .ref h_t_lengths, .int v_t_count])), (h_t_lengths, .inl (k_cI G, 5, .inl w_t_lengths)), (h_t_rows, .inl (k_cI G, 5, .inl w_t_rows))] := hD
      obtain ⟨t4, et4, hrun⟩ := bd_inv hrun
      refine k_callv (w2 := fun (_ : Unit) => [(h_a1, .inr (6, [.ref h_a1_rows, .ref h_a1_lengths, .int v_a1_count])), (h_a1_lengths, .inl (k_cI G, 5, .inl w_a1_lengths)), (h_a1_rows, .inl (k_cI G, 5, .inl w_a1_rows)), (h_t, .inr (6, [.ref h_t_rows, .ref h_t_lengths, .int v_t_count])), (h_t_lengths, .inl (k_cI G, 5, .inl t4.1)), (h_t_rows, .inl (k_cI G, 5, .inl t4.2))]) C0 (k_runV (rest := []) C0 (c_X9_put et4) (cwV 3 hts gX9_copy_X9_put rfl rfl rfl e_X9_put ⟨Nat.le_of_ble_eq_true rfl, Nat.le_of_ble_eq_true rfl⟩) hP hD hS [3, 4, 5] rfl (by decide) 3 (qc := (RX9, TX9, 3)) rfl rfl rfl rfl hl.1 rfl (Nat.le_of_ble_eq_true rfl) dX9_copy_27 ⟨Nat.le_of_ble_eq_true rfl, Nat.le_of_ble_eq_true rfl⟩) hP hD hS [3, 4, 5] [0, 1, 2] rfl rfl (by decide) (by decide) [0, 1, 2, 3, 4, 5] (by decide) (fun _ => rfl) (fun _ H locs hP hD hS => ?_)
      have hP : va_P G.1 vwCl [(h_a1, .inr (6, [.ref h_a1_rows, .ref h_a1_lengths, .int v_a1_count])), (h_a1_lengths, .inl (k_cI G, 5, .inl w_a1_lengths)), (h_a1_rows, .inl (k_cI G, 5, .inl w_a1_rows)), (h_t, .inr (6, [.ref h_t_rows, .ref h_t_lengths, .int v_t_count])), (h_t_lengths, .inl (k_cI G, 5, .inl t4.1)), (h_t_rows, .inl (k_cI G, 5, .inl t4.2))] H := hP
      have hD : va_D A [(h_a1, .inr (6, [.ref h_a1_rows, .ref h_a1_lengths, .int v_a1_count])), (h_a1_lengths, .inl (k_cI G, 5, .inl w_a1_lengths)), (h_a1_rows, .inl (k_cI G, 5, .inl w_a1_rows)), (h_t, .inr (6, [.ref h_t_rows, .ref h_t_lengths, .int v_t_count])), (h_t_lengths, .inl (k_cI G, 5, .inl t4.1)), (h_t_rows, .inl (k_cI G, 5, .inl t4.2))] := hD
      refine lv_iinc (v := x2 + 1) (lv' := [(2, .int (x2 + 1)), (0, .ref h_t), (1, .ref h_a1)]) hx hb dX9_copy_30 hl (k := 2) rfl rfl (by decide) rfl (fun ls hl => ?_)
      refine lv_goto (tgt := 10) hx hb dX9_copy_33 (by decide) ?_
      exact ih (x2 + 1) v_a1_count v_t_count w_a1_lengths w_a1_rows t4.1 t4.2 _ _ _ hP hD hS (lv_sub hl [1, 2, 0] rfl) hrun
set_option maxHeartbeats 4000000 in
set_option maxRecDepth 100000 in
theorem c_X9_copy {l : Launch} {G : k_G} {h_a1 h_a1_lengths h_a1_rows h_t h_t_lengths h_t_rows : Nat} {sz : Nat} {v_a1_count : Int32} {v_t_count : Int32} {w_a1_lengths : Nat → Int32} {w_a1_rows : Nat → Int32} {w_t_lengths : Nat → Int32} {w_t_rows : Nat → Int32} {out : Int32 × (Nat → Int32) × (Nat → Int32)} (hrun : f_X9_copy v_a1_count v_t_count w_a1_lengths w_a1_rows w_t_lengths w_t_rows = some out) : k_Cv l G yX9_copy wsX9_copy rm_X9_copy [.ref h_t, .ref h_a1] [(h_a1, .inr (6, [.ref h_a1_rows, .ref h_a1_lengths, .int v_a1_count])), (h_a1_lengths, .inl (k_cI G, 5, .inl w_a1_lengths)), (h_a1_rows, .inl (k_cI G, 5, .inl w_a1_rows)), (h_t, .inr (6, [.ref h_t_rows, .ref h_t_lengths, .int v_t_count])), (h_t_lengths, .inl (k_cI G, 5, .inl w_t_lengths)), (h_t_rows, .inl (k_cI G, 5, .inl w_t_rows))] sz (fun (_ : Unit) => [(h_a1, .inr (6, [.ref h_a1_rows, .ref h_a1_lengths, .int v_a1_count])), (h_a1_lengths, .inl (k_cI G, 5, .inl w_a1_lengths)), (h_a1_rows, .inl (k_cI G, 5, .inl w_a1_rows)), (h_t, .inr (6, [.ref h_t_rows, .ref h_t_lengths, .int out.1])), (h_t_lengths, .inl (k_cI G, 5, .inl out.2.1)), (h_t_rows, .inl (k_cI G, 5, .inl out.2.2))]) 0 0 := by
  refine k_of (cc := cX9_copy) (nL := 3) (ret := none) (own := RX9) (nm := "copy") (by decide) rfl rfl rfl rfl ?_
  intro p e s m args below meth c ls hsz C0 hP hD hS hl
  have hl : lv_has ls 3 [(0, .ref h_t), (1, .ref h_a1)] := hl
  generalize hH : s.heap = H at hP
  have hS : va_S (va_A [(h_a1, .inr (6, [.ref h_a1_rows, .ref h_a1_lengths, .int v_a1_count])), (h_a1_lengths, .inl (k_cI G, 5, .inl w_a1_lengths)), (h_a1_rows, .inl (k_cI G, 5, .inl w_a1_rows)), (h_t, .inr (6, [.ref h_t_rows, .ref h_t_lengths, .int v_t_count])), (h_t_lengths, .inl (k_cI G, 5, .inl w_t_lengths)), (h_t_rows, .inl (k_cI G, 5, .inl w_t_rows))] sz) s.heap H [] := by rw [← hH]; exact hS
  clear hH
  generalize va_A [(h_a1, .inr (6, [.ref h_a1_rows, .ref h_a1_lengths, .int v_a1_count])), (h_a1_lengths, .inl (k_cI G, 5, .inl w_a1_lengths)), (h_a1_rows, .inl (k_cI G, 5, .inl w_a1_rows)), (h_t, .inr (6, [.ref h_t_rows, .ref h_t_lengths, .int v_t_count])), (h_t_lengths, .inl (k_cI G, 5, .inl w_t_lengths)), (h_t_rows, .inl (k_cI G, 5, .inl w_t_rows))] sz = A at C0 hD hS ⊢
  have hx := C0.1
  have hb := C0.2.1
  have hts := C0.2.2.2.1
  have hown := C0.2.2.2.2.1
  have hK := C0.2.2.2.2.2.2.2.2.1.1
  have hNW := C0.2.2.2.2.2.2.2.2.1.2.1
  have hSF := C0.2.2.2.2.2.2.2.2.1.2.2
  rw [f_X9_copy] at hrun
  refine lv_aload_n hx hb dX9_copy_0 rfl (lv_at hl 0 rfl) ?_
  refine lv_aload_n hx hb dX9_copy_1 rfl (lv_at hl 1 rfl) ?_
  refine va_get (D := G.1) (ci := 6) (v := .int v_a1_count) (C := RX9) (T := TX9) (N := 3) hx hb hts n_X9_copy_X9 hown hK hP 0 rfl rfl 2 (by decide) (hts _ u_X9_copy_1) (fun _ h9 => h9) rfl dX9_copy_2 ?_
  refine va_put (D := G.1) (ci := 6) (v := .int v_a1_count) (ty := .int) (C := RX9) (T := TX9) (N := 3) hx hb hts n_X9_copy_X9 tyX9 tyX9_ok nmX9 hown hK hP hD hS 3 rfl rfl 2 (by decide) (hts _ u_X9_copy_1) (fun _ h9 => h9) rfl (by decide +kernel) rfl rfl (Nat.le_of_ble_eq_true rfl) dX9_copy_5 (fun H locs hP hD hS => ?_)
  have hP : va_P G.1 vwCl [(h_a1, .inr (6, [.ref h_a1_rows, .ref h_a1_lengths, .int v_a1_count])), (h_a1_lengths, .inl (k_cI G, 5, .inl w_a1_lengths)), (h_a1_rows, .inl (k_cI G, 5, .inl w_a1_rows)), (h_t, .inr (6, [.ref h_t_rows, .ref h_t_lengths, .int v_a1_count])), (h_t_lengths, .inl (k_cI G, 5, .inl w_t_lengths)), (h_t_rows, .inl (k_cI G, 5, .inl w_t_rows))] H := hP
  have hD : va_D A [(h_a1, .inr (6, [.ref h_a1_rows, .ref h_a1_lengths, .int v_a1_count])), (h_a1_lengths, .inl (k_cI G, 5, .inl w_a1_lengths)), (h_a1_rows, .inl (k_cI G, 5, .inl w_a1_rows)), (h_t, .inr (6, [.ref h_t_rows, .ref h_t_lengths, .int v_a1_count])), (h_t_lengths, .inl (k_cI G, 5, .inl w_t_lengths)), (h_t_rows, .inl (k_cI G, 5, .inl w_t_rows))] := hD
  refine lv_iconst (v := 0) hx hb dX9_copy_8 (by decide) ?_
  refine lv_istore_n (lv' := [(2, .int (0 : Int32)), (0, .ref h_t), (1, .ref h_a1)]) hx hb dX9_copy_9 rfl hl (by decide) rfl (fun ls hl => ?_)
  exact t_X9_copy_10 C0 kFU (0 : Int32) v_a1_count v_a1_count w_a1_lengths w_a1_rows w_t_lengths w_t_rows _ _ _ hP hD hS (lv_sub hl [1, 2, 0] rfl) hrun
theorem u_X0_init_1 : (Cond.methodLink RX0 3 objectInit) ∈ wsX0_init := List.mem_of_getElem? (i := 1) (by decide +kernel)
theorem u_X0_init_2 : (Cond.instanceMethod objectInit) ∈ wsX0_init := List.mem_of_getElem? (i := 2) (by decide +kernel)
theorem u_X0_init_3 : (Cond.code objectInit ⟨#[0xb1]⟩ 1 none) ∈ wsX0_init := List.mem_of_getElem? (i := 3) (by decide +kernel)
theorem u_X0_init_4 : (Cond.arrayClass .int) ∈ wsX0_init := List.mem_of_getElem? (i := 4) (by decide +kernel)
theorem u_X0_init_5 : (Cond.fieldLink RX0 9 "ClosePacking$Acts" "changed" "[I") ∈ wsX0_init := List.mem_of_getElem? (i := 5) (by decide +kernel)
theorem u_X0_init_6 : (Cond.fieldLink RX0 15 "ClosePacking$Acts" "rows" "[I") ∈ wsX0_init := List.mem_of_getElem? (i := 6) (by decide +kernel)
theorem u_X0_init_7 : (Cond.fieldLink RX0 18 "ClosePacking$Acts" "lengths" "[I") ∈ wsX0_init := List.mem_of_getElem? (i := 7) (by decide +kernel)
theorem n_X0_init_X0 : ∀ w ∈ u_ws RX0 TX0 4, w ∈ wsX0_init := by decide +kernel
abbrev rm_X0_init : Room := { frames := 1, cells := 3, slots := 48, locals := 20 }
theorem e_X0_init : yX0_init.cls = RX0 ∧ yX0_init.cls ≠ "java/lang/invoke/MethodHandle" ∧ yX0_init.cls ≠ "java/lang/invoke/VarHandle" ∧ (parseMethodDescriptor yX0_init.desc).map (fun d => d.parameters.length) = some 0 := by decide +kernel
set_option maxHeartbeats 4000000 in
set_option maxRecDepth 100000 in
theorem c_X0_init {l : Launch} {G : k_G} {h_t : Nat} {g_t_changed g_t_rows g_t_lengths g_t_count : Value} {sz : Nat} {out : Unit} (hrun : f_X0_init  = some out) : k_Cv l G yX0_init wsX0_init rm_X0_init [.ref h_t] [(h_t, .inr (0, [g_t_changed, g_t_rows, g_t_lengths, g_t_count]))] sz (fun (u : Nat × Nat × Nat) => [(h_t, .inr (0, [.ref u.1, .ref u.2.1, .ref u.2.2, g_t_count])), (u.1, .inl (k_cI G, 16, .inl (fun _ => 0))), (u.2.1, .inl (k_cI G, 16, .inl (fun _ => 0))), (u.2.2, .inl (k_cI G, 16, .inl (fun _ => 0)))]) 3 48 := by
  refine k_of (cc := cX0_init) (nL := 1) (ret := none) (own := RX0) (nm := "<init>") (by decide) rfl rfl rfl rfl ?_
  intro p e s m args below meth c ls hsz C0 hP hD hS hl
  have hl : lv_has ls 1 [(0, .ref h_t)] := hl
  generalize hH : s.heap = H at hP
  have hS : va_S (va_A [(h_t, .inr (0, [g_t_changed, g_t_rows, g_t_lengths, g_t_count]))] sz) s.heap H [] := by rw [← hH]; exact hS
  clear hH
  generalize va_A [(h_t, .inr (0, [g_t_changed, g_t_rows, g_t_lengths, g_t_count]))] sz = A at C0 hD hS ⊢
  have hx := C0.1
  have hb := C0.2.1
  have hts := C0.2.2.2.1
  have hown := C0.2.2.2.2.1
  have hK := C0.2.2.2.2.2.2.2.2.1.1
  have hNW := C0.2.2.2.2.2.2.2.2.1.2.1
  have hSF := C0.2.2.2.2.2.2.2.2.1.2.2
  rw [f_X0_init] at hrun
  refine lv_aload_n hx hb dX0_init_0 rfl (lv_at hl 0 rfl) ?_
  refine W.objInit hx hb hown (hts _ u_X0_init_1) (hts _ u_X0_init_2) (hts _ u_X0_init_3) rfl (by rw [C0.2.2.2.2.2.2.1]; exact hl.1) rfl dX0_init_1 (Nat.le_of_ble_eq_true rfl) (Nat.le_of_ble_eq_true rfl) ?_
  refine W.eq (g2 := F0 m 4 ls []) rfl ?_
  refine lv_aload_n hx hb dX0_init_4 rfl (lv_at hl 0 rfl) ?_
  refine lv_bipush (v := 16) hx hb dX0_init_5 (by decide) ?_
  refine k_newa (atype := .int) (ty := .int) (a0 := (16, .inl (fun _ => 0))) C0 (hts _ u_X0_init_4) rfl 1 rfl (fun _ h9 => h9) hP hD hS (fun _ => rfl) (by decide) (by decide) (Nat.le_of_ble_eq_true rfl) (Nat.le_of_ble_eq_true rfl) (Nat.le_of_ble_eq_true rfl) dX0_init_7 (fun h_n7 H hP hD hS => ?_)
  have hP : va_P G.1 vwCl [(h_t, .inr (0, [g_t_changed, g_t_rows, g_t_lengths, g_t_count])), (h_n7, .inl (k_cI G, 16, .inl (fun _ => 0)))] H := hP
  have hD : va_D A [(h_t, .inr (0, [g_t_changed, g_t_rows, g_t_lengths, g_t_count])), (h_n7, .inl (k_cI G, 16, .inl (fun _ => 0)))] := hD
  refine W.widen (k := 1) (n := 16) (Nat.le_of_ble_eq_true rfl) (Nat.le_of_ble_eq_true rfl) ?_
  refine va_putF (D := G.1) (ci := 0) (v := .ref h_n7) (ty := (tyX0 0)) (C := RX0) (T := TX0) (N := 4) hx hb hts n_X0_init_X0 tyX0 tyX0_ok nmX0 hown hK hP hD hS 0 rfl rfl 0 (by decide) (hts _ u_X0_init_5) (fun _ h9 => h9) rfl C0.2.2.2.2.2.2.2.2.2 rfl (by decide +kernel) rfl rfl (Nat.le_of_ble_eq_true rfl) dX0_init_9 (fun H locs hP hD hS => ?_)
  have hP : va_P G.1 vwCl [(h_t, .inr (0, [.ref h_n7, g_t_rows, g_t_lengths, g_t_count])), (h_n7, .inl (k_cI G, 16, .inl (fun _ => 0)))] H := hP
  have hD : va_D A [(h_t, .inr (0, [.ref h_n7, g_t_rows, g_t_lengths, g_t_count])), (h_n7, .inl (k_cI G, 16, .inl (fun _ => 0)))] := hD
  refine lv_aload_n hx hb dX0_init_12 rfl (lv_at hl 0 rfl) ?_
  refine lv_bipush (v := 16) hx hb dX0_init_13 (by decide) ?_
  refine k_newa (atype := .int) (ty := .int) (a0 := (16, .inl (fun _ => 0))) C0 (hts _ u_X0_init_4) rfl 1 rfl (fun _ h9 => h9) hP hD hS (fun _ => rfl) (by decide) (by decide) (Nat.le_of_ble_eq_true rfl) (Nat.le_of_ble_eq_true rfl) (Nat.le_of_ble_eq_true rfl) dX0_init_15 (fun h_n15 H hP hD hS => ?_)
  have hP : va_P G.1 vwCl [(h_t, .inr (0, [.ref h_n7, g_t_rows, g_t_lengths, g_t_count])), (h_n7, .inl (k_cI G, 16, .inl (fun _ => 0))), (h_n15, .inl (k_cI G, 16, .inl (fun _ => 0)))] H := hP
  have hD : va_D A [(h_t, .inr (0, [.ref h_n7, g_t_rows, g_t_lengths, g_t_count])), (h_n7, .inl (k_cI G, 16, .inl (fun _ => 0))), (h_n15, .inl (k_cI G, 16, .inl (fun _ => 0)))] := hD
  refine W.widen (k := 2) (n := 32) (Nat.le_of_ble_eq_true rfl) (Nat.le_of_ble_eq_true rfl) ?_
  refine va_putF (D := G.1) (ci := 0) (v := .ref h_n15) (ty := (tyX0 1)) (C := RX0) (T := TX0) (N := 4) hx hb hts n_X0_init_X0 tyX0 tyX0_ok nmX0 hown hK hP hD hS 0 rfl rfl 1 (by decide) (hts _ u_X0_init_6) (fun _ h9 => h9) rfl C0.2.2.2.2.2.2.2.2.2 rfl (by decide +kernel) rfl rfl (Nat.le_of_ble_eq_true rfl) dX0_init_17 (fun H locs hP hD hS => ?_)
  have hP : va_P G.1 vwCl [(h_t, .inr (0, [.ref h_n7, .ref h_n15, g_t_lengths, g_t_count])), (h_n7, .inl (k_cI G, 16, .inl (fun _ => 0))), (h_n15, .inl (k_cI G, 16, .inl (fun _ => 0)))] H := hP
  have hD : va_D A [(h_t, .inr (0, [.ref h_n7, .ref h_n15, g_t_lengths, g_t_count])), (h_n7, .inl (k_cI G, 16, .inl (fun _ => 0))), (h_n15, .inl (k_cI G, 16, .inl (fun _ => 0)))] := hD
  refine lv_aload_n hx hb dX0_init_20 rfl (lv_at hl 0 rfl) ?_
  refine lv_bipush (v := 16) hx hb dX0_init_21 (by decide) ?_
  refine k_newa (atype := .int) (ty := .int) (a0 := (16, .inl (fun _ => 0))) C0 (hts _ u_X0_init_4) rfl 1 rfl (fun _ h9 => h9) hP hD hS (fun _ => rfl) (by decide) (by decide) (Nat.le_of_ble_eq_true rfl) (Nat.le_of_ble_eq_true rfl) (Nat.le_of_ble_eq_true rfl) dX0_init_23 (fun h_n23 H hP hD hS => ?_)
  have hP : va_P G.1 vwCl [(h_t, .inr (0, [.ref h_n7, .ref h_n15, g_t_lengths, g_t_count])), (h_n7, .inl (k_cI G, 16, .inl (fun _ => 0))), (h_n15, .inl (k_cI G, 16, .inl (fun _ => 0))), (h_n23, .inl (k_cI G, 16, .inl (fun _ => 0)))] H := hP
  have hD : va_D A [(h_t, .inr (0, [.ref h_n7, .ref h_n15, g_t_lengths, g_t_count])), (h_n7, .inl (k_cI G, 16, .inl (fun _ => 0))), (h_n15, .inl (k_cI G, 16, .inl (fun _ => 0))), (h_n23, .inl (k_cI G, 16, .inl (fun _ => 0)))] := hD
  refine W.widen (k := 3) (n := 48) (Nat.le_of_ble_eq_true rfl) (Nat.le_of_ble_eq_true rfl) ?_
  refine va_putF (D := G.1) (ci := 0) (v := .ref h_n23) (ty := (tyX0 2)) (C := RX0) (T := TX0) (N := 4) hx hb hts n_X0_init_X0 tyX0 tyX0_ok nmX0 hown hK hP hD hS 0 rfl rfl 2 (by decide) (hts _ u_X0_init_7) (fun _ h9 => h9) rfl C0.2.2.2.2.2.2.2.2.2 rfl (by decide +kernel) rfl rfl (Nat.le_of_ble_eq_true rfl) dX0_init_25 (fun H locs hP hD hS => ?_)
  have hP : va_P G.1 vwCl [(h_t, .inr (0, [.ref h_n7, .ref h_n15, .ref h_n23, g_t_count])), (h_n7, .inl (k_cI G, 16, .inl (fun _ => 0))), (h_n15, .inl (k_cI G, 16, .inl (fun _ => 0))), (h_n23, .inl (k_cI G, 16, .inl (fun _ => 0)))] H := hP
  have hD : va_D A [(h_t, .inr (0, [.ref h_n7, .ref h_n15, .ref h_n23, g_t_count])), (h_n7, .inl (k_cI G, 16, .inl (fun _ => 0))), (h_n15, .inl (k_cI G, 16, .inl (fun _ => 0))), (h_n23, .inl (k_cI G, 16, .inl (fun _ => 0)))] := hD
  obtain rfl := Option.some.inj hrun
  exact k_retv C0 hP hD hS (h_n7, h_n15, h_n23) rfl dX0_init_28
theorem u_X0_forgetFirst_1 : (Cond.fieldLink RX0 9 "ClosePacking$Acts" "changed" "[I") ∈ wsX0_forgetFirst := List.mem_of_getElem? (i := 1) (by decide +kernel)
theorem u_X0_forgetFirst_2 : (Cond.fieldLink RX0 15 "ClosePacking$Acts" "rows" "[I") ∈ wsX0_forgetFirst := List.mem_of_getElem? (i := 2) (by decide +kernel)
theorem u_X0_forgetFirst_3 : (Cond.fieldLink RX0 18 "ClosePacking$Acts" "lengths" "[I") ∈ wsX0_forgetFirst := List.mem_of_getElem? (i := 3) (by decide +kernel)
theorem u_X0_forgetFirst_4 : (Cond.fieldLink RX0 21 "ClosePacking$Acts" "count" "I") ∈ wsX0_forgetFirst := List.mem_of_getElem? (i := 4) (by decide +kernel)
theorem u_X0_forgetFirst_5 : (Cond.static yX11_at) ∈ wsX0_forgetFirst := List.mem_of_getElem? (i := 5) (by decide +kernel)
theorem u_X0_forgetFirst_6 : (Cond.initialized RX11) ∈ wsX0_forgetFirst := List.mem_of_getElem? (i := 6) (by decide +kernel)
theorem u_X0_forgetFirst_8 : (Cond.static yX11_set) ∈ wsX0_forgetFirst := List.mem_of_getElem? (i := 8) (by decide +kernel)
theorem n_X0_forgetFirst_X0 : ∀ w ∈ u_ws RX0 TX0 4, w ∈ wsX0_forgetFirst := by decide +kernel
theorem nw_X0_forgetFirst_7 : k_nest[7]? = some (.methodLinkNest RX0 28 yX11_set "ClosePacking") := rfl
theorem nw_X0_forgetFirst_8 : k_nest[8]? = some (.methodLinkNest RX0 32 yX11_at "ClosePacking") := rfl
abbrev rm_X0_forgetFirst : Room := { frames := 1, cells := 0, slots := 0, locals := 22 }
theorem e_X0_forgetFirst : yX0_forgetFirst.cls = RX0 ∧ yX0_forgetFirst.cls ≠ "java/lang/invoke/MethodHandle" ∧ yX0_forgetFirst.cls ≠ "java/lang/invoke/VarHandle" ∧ (parseMethodDescriptor yX0_forgetFirst.desc).map (fun d => d.parameters.length) = some 0 := by decide +kernel
set_option maxHeartbeats 4000000 in
set_option maxRecDepth 100000 in
theorem t_X0_forgetFirst_2 {l : Launch} {G : k_G} {p : Program} {e : Env} {s : State} {m : MethodId} {args : Array Value} {below : List Frame} {meth : Method} {c : Code} {A : Nat → Prop} {h_t h_t_changed h_t_lengths h_t_rows : Nat} {out : Int32 × (Nat → Int32) × (Nat → Int32) × (Nat → Int32)} (C0 : k_C G p s m args meth c A cX0_forgetFirst RX0 wsX0_forgetFirst 2 none "forgetFirst") : ∀ (n : Nat) (x1 : Int32) (v_t_count : Int32) (w_t_changed : Nat → Int32) (w_t_lengths : Nat → Int32) (w_t_rows : Nat → Int32) (H : Heap) (locs : List Loc) (ls : Array Slot), va_P G.1 vwCl [(h_t, .inr (0, [.ref h_t_changed, .ref h_t_rows, .ref h_t_lengths, .int v_t_count])), (h_t_changed, .inl (k_cI G, 16, .inl w_t_changed)), (h_t_lengths, .inl (k_cI G, 16, .inl w_t_lengths)), (h_t_rows, .inl (k_cI G, 16, .inl w_t_rows))] H → va_D A [(h_t, .inr (0, [.ref h_t_changed, .ref h_t_rows, .ref h_t_lengths, .int v_t_count])), (h_t_changed, .inl (k_cI G, 16, .inl w_t_changed)), (h_t_lengths, .inl (k_cI G, 16, .inl w_t_lengths)), (h_t_rows, .inl (k_cI G, 16, .inl w_t_rows))] → va_S A s.heap H locs → lv_has ls 2 [(0, .ref h_t), (1, .int x1)] → f_X0_forgetFirst_2 n x1 v_t_count w_t_changed w_t_lengths w_t_rows = some out → W p l e rm_X0_forgetFirst s m args below meth c H locs 0 0 (MQ below (k_Qv G A (fun (_ : Unit) => [(h_t, .inr (0, [.ref h_t_changed, .ref h_t_rows, .ref h_t_lengths, .int out.1])), (h_t_changed, .inl (k_cI G, 16, .inl out.2.1)), (h_t_lengths, .inl (k_cI G, 16, .inl out.2.2.1)), (h_t_rows, .inl (k_cI G, 16, .inl out.2.2.2))])) args s 0 0 A) (F0 m 2 ls []) := by
  have hx := C0.1
  have hb := C0.2.1
  have hts := C0.2.2.2.1
  have hown := C0.2.2.2.2.1
  have hK := C0.2.2.2.2.2.2.2.2.1.1
  have hNW := C0.2.2.2.2.2.2.2.2.1.2.1
  have hSF := C0.2.2.2.2.2.2.2.2.1.2.2
  intro n
  induction n with
  | zero =>
    intro x1 v_t_count w_t_changed w_t_lengths w_t_rows H locs ls hP hD hS hl hrun
    rw [f_X0_forgetFirst_2] at hrun
    cases hrun
  | succ n ih =>
    intro x1 v_t_count w_t_changed w_t_lengths w_t_rows H locs ls hP hD hS hl hrun
    rw [f_X0_forgetFirst_2] at hrun
    refine lv_iload_n hx hb dX0_forgetFirst_2 rfl (lv_at hl 1 rfl) ?_
    refine lv_bipush (v := 16) hx hb dX0_forgetFirst_3 (by decide) ?_
    refine lv_icmp_ge (tgt := 68) hx hb dX0_forgetFirst_5 (by decide) (fun q1 => ?_) (fun q1 => ?_)
    · replace hrun := if_t q1 hrun
      refine lv_aload_n hx hb dX0_forgetFirst_68 rfl (lv_at hl 0 rfl) ?_
      refine lv_bipush (v := 15) hx hb dX0_forgetFirst_69 (by decide) ?_
      refine va_put (D := G.1) (ci := 0) (v := .int (15 : Int32)) (ty := .int) (C := RX0) (T := TX0) (N := 4) hx hb hts n_X0_forgetFirst_X0 tyX0 tyX0_ok nmX0 hown hK hP hD hS 0 rfl rfl 3 (by decide) (hts _ u_X0_forgetFirst_4) (fun _ h9 => h9) rfl (by decide +kernel) rfl rfl (Nat.le_of_ble_eq_true rfl) dX0_forgetFirst_71 (fun H locs hP hD hS => ?_)
      have hP : va_P G.1 vwCl [(h_t, .inr (0, [.ref h_t_changed, .ref h_t_rows, .ref h_t_lengths, .int (15 : Int32)])), (h_t_changed, .inl (k_cI G, 16, .inl w_t_changed)), (h_t_lengths, .inl (k_cI G, 16, .inl w_t_lengths)), (h_t_rows, .inl (k_cI G, 16, .inl w_t_rows))] H := hP
      have hD : va_D A [(h_t, .inr (0, [.ref h_t_changed, .ref h_t_rows, .ref h_t_lengths, .int (15 : Int32)])), (h_t_changed, .inl (k_cI G, 16, .inl w_t_changed)), (h_t_lengths, .inl (k_cI G, 16, .inl w_t_lengths)), (h_t_rows, .inl (k_cI G, 16, .inl w_t_rows))] := hD
      obtain rfl := Option.some.inj hrun
      exact k_retv C0 hP hD hS () rfl dX0_forgetFirst_74
    · replace hrun := if_f q1 hrun
      refine lv_aload_n hx hb dX0_forgetFirst_8 rfl (lv_at hl 0 rfl) ?_
      refine va_get (D := G.1) (ci := 0) (v := .ref h_t_changed) (C := RX0) (T := TX0) (N := 4) hx hb hts n_X0_forgetFirst_X0 hown hK hP 0 rfl rfl 0 (by decide) (hts _ u_X0_forgetFirst_1) (fun _ h9 => h9) rfl dX0_forgetFirst_9 ?_
      refine lv_iload_n hx hb dX0_forgetFirst_12 rfl (lv_at hl 1 rfl) ?_
      refine lv_iconst (v := 1) hx hb dX0_forgetFirst_13 (by decide) ?_
      refine lv_isub hx hb dX0_forgetFirst_14 ?_
      refine lv_aload_n hx hb dX0_forgetFirst_15 rfl (lv_at hl 0 rfl) ?_
      refine va_get (D := G.1) (ci := 0) (v := .ref h_t_changed) (C := RX0) (T := TX0) (N := 4) hx hb hts n_X0_forgetFirst_X0 hown hK hP 0 rfl rfl 0 (by decide) (hts _ u_X0_forgetFirst_1) (fun _ h9 => h9) rfl dX0_forgetFirst_16 ?_
      refine lv_iload_n hx hb dX0_forgetFirst_19 rfl (lv_at hl 1 rfl) ?_
      obtain ⟨t2, et2, hrun⟩ := bd_inv hrun
      refine k_calli (w2 := fun (_ : Unit) => [(h_t, .inr (0, [.ref h_t_changed, .ref h_t_rows, .ref h_t_lengths, .int v_t_count])), (h_t_changed, .inl (k_cI G, 16, .inl w_t_changed)), (h_t_lengths, .inl (k_cI G, 16, .inl w_t_lengths)), (h_t_rows, .inl (k_cI G, 16, .inl w_t_rows))]) C0 (k_runSN (rest := [.int (x1 - (1 : Int32)), .ref h_t_changed]) C0 (c_X11_at et2) (va_cnB 2 hts gX0_forgetFirst_X11_at_n32 rfl rfl rfl (k_nw hNW 8 nw_X0_forgetFirst_8) (hts _ u_X0_forgetFirst_6) e_X11_at.2 ⟨Nat.le_of_ble_eq_true rfl, Nat.le_of_ble_eq_true rfl⟩) (hts _ u_X0_forgetFirst_5) hP hD hS [1] rfl (by decide) rfl hl.1 rfl (Nat.le_of_ble_eq_true rfl) dX0_forgetFirst_20 ⟨Nat.le_of_ble_eq_true rfl, Nat.le_of_ble_eq_true rfl⟩) hP hD hS [1] [0, 2, 3] rfl rfl (by decide) (by decide) [0, 3, 1, 2] (by decide) (fun _ => rfl) (fun _ H locs hP hD hS => ?_)
      have hP : va_P G.1 vwCl [(h_t, .inr (0, [.ref h_t_changed, .ref h_t_rows, .ref h_t_lengths, .int v_t_count])), (h_t_changed, .inl (k_cI G, 16, .inl w_t_changed)), (h_t_lengths, .inl (k_cI G, 16, .inl w_t_lengths)), (h_t_rows, .inl (k_cI G, 16, .inl w_t_rows))] H := hP
      have hD : va_D A [(h_t, .inr (0, [.ref h_t_changed, .ref h_t_rows, .ref h_t_lengths, .int v_t_count])), (h_t_changed, .inl (k_cI G, 16, .inl w_t_changed)), (h_t_lengths, .inl (k_cI G, 16, .inl w_t_lengths)), (h_t_rows, .inl (k_cI G, 16, .inl w_t_rows))] := hD
      obtain ⟨t3, et3, hrun⟩ := bd_inv hrun
      refine k_callv (w2 := fun (_ : Unit) => [(h_t, .inr (0, [.ref h_t_changed, .ref h_t_rows, .ref h_t_lengths, .int v_t_count])), (h_t_changed, .inl (k_cI G, 16, .inl t3)), (h_t_lengths, .inl (k_cI G, 16, .inl w_t_lengths)), (h_t_rows, .inl (k_cI G, 16, .inl w_t_rows))]) C0 (k_runSN (rest := []) C0 (c_X11_set et3) (va_cnB 3 hts gX0_forgetFirst_X11_set_n28 rfl rfl rfl (k_nw hNW 7 nw_X0_forgetFirst_7) (hts _ u_X0_forgetFirst_6) e_X11_set.2 ⟨Nat.le_of_ble_eq_true rfl, Nat.le_of_ble_eq_true rfl⟩) (hts _ u_X0_forgetFirst_8) hP hD hS [1] rfl (by decide) rfl hl.1 rfl (Nat.le_of_ble_eq_true rfl) dX0_forgetFirst_23 ⟨Nat.le_of_ble_eq_true rfl, Nat.le_of_ble_eq_true rfl⟩) hP hD hS [1] [0, 2, 3] rfl rfl (by decide) (by decide) [0, 3, 1, 2] (by decide) (fun _ => rfl) (fun _ H locs hP hD hS => ?_)
      have hP : va_P G.1 vwCl [(h_t, .inr (0, [.ref h_t_changed, .ref h_t_rows, .ref h_t_lengths, .int v_t_count])), (h_t_changed, .inl (k_cI G, 16, .inl t3)), (h_t_lengths, .inl (k_cI G, 16, .inl w_t_lengths)), (h_t_rows, .inl (k_cI G, 16, .inl w_t_rows))] H := hP
      have hD : va_D A [(h_t, .inr (0, [.ref h_t_changed, .ref h_t_rows, .ref h_t_lengths, .int v_t_count])), (h_t_changed, .inl (k_cI G, 16, .inl t3)), (h_t_lengths, .inl (k_cI G, 16, .inl w_t_lengths)), (h_t_rows, .inl (k_cI G, 16, .inl w_t_rows))] := hD
      refine lv_aload_n hx hb dX0_forgetFirst_26 rfl (lv_at hl 0 rfl) ?_
      refine va_get (D := G.1) (ci := 0) (v := .ref h_t_rows) (C := RX0) (T := TX0) (N := 4) hx hb hts n_X0_forgetFirst_X0 hown hK hP 0 rfl rfl 1 (by decide) (hts _ u_X0_forgetFirst_2) (fun _ h9 => h9) rfl dX0_forgetFirst_27 ?_
      refine lv_iload_n hx hb dX0_forgetFirst_30 rfl (lv_at hl 1 rfl) ?_
      refine lv_iconst (v := 1) hx hb dX0_forgetFirst_31 (by decide) ?_
      refine lv_isub hx hb dX0_forgetFirst_32 ?_
      refine lv_aload_n hx hb dX0_forgetFirst_33 rfl (lv_at hl 0 rfl) ?_
      refine va_get (D := G.1) (ci := 0) (v := .ref h_t_rows) (C := RX0) (T := TX0) (N := 4) hx hb hts n_X0_forgetFirst_X0 hown hK hP 0 rfl rfl 1 (by decide) (hts _ u_X0_forgetFirst_2) (fun _ h9 => h9) rfl dX0_forgetFirst_34 ?_
      refine lv_iload_n hx hb dX0_forgetFirst_37 rfl (lv_at hl 1 rfl) ?_
      obtain ⟨t4, et4, hrun⟩ := bd_inv hrun
      refine k_calli (w2 := fun (_ : Unit) => [(h_t, .inr (0, [.ref h_t_changed, .ref h_t_rows, .ref h_t_lengths, .int v_t_count])), (h_t_changed, .inl (k_cI G, 16, .inl t3)), (h_t_lengths, .inl (k_cI G, 16, .inl w_t_lengths)), (h_t_rows, .inl (k_cI G, 16, .inl w_t_rows))]) C0 (k_runSN (rest := [.int (x1 - (1 : Int32)), .ref h_t_rows]) C0 (c_X11_at et4) (va_cnB 2 hts gX0_forgetFirst_X11_at_n32 rfl rfl rfl (k_nw hNW 8 nw_X0_forgetFirst_8) (hts _ u_X0_forgetFirst_6) e_X11_at.2 ⟨Nat.le_of_ble_eq_true rfl, Nat.le_of_ble_eq_true rfl⟩) (hts _ u_X0_forgetFirst_5) hP hD hS [3] rfl (by decide) rfl hl.1 rfl (Nat.le_of_ble_eq_true rfl) dX0_forgetFirst_38 ⟨Nat.le_of_ble_eq_true rfl, Nat.le_of_ble_eq_true rfl⟩) hP hD hS [3] [0, 1, 2] rfl rfl (by decide) (by decide) [0, 1, 2, 3] (by decide) (fun _ => rfl) (fun _ H locs hP hD hS => ?_)
      have hP : va_P G.1 vwCl [(h_t, .inr (0, [.ref h_t_changed, .ref h_t_rows, .ref h_t_lengths, .int v_t_count])), (h_t_changed, .inl (k_cI G, 16, .inl t3)), (h_t_lengths, .inl (k_cI G, 16, .inl w_t_lengths)), (h_t_rows, .inl (k_cI G, 16, .inl w_t_rows))] H := hP
      have hD : va_D A [(h_t, .inr (0, [.ref h_t_changed, .ref h_t_rows, .ref h_t_lengths, .int v_t_count])), (h_t_changed, .inl (k_cI G, 16, .inl t3)), (h_t_lengths, .inl (k_cI G, 16, .inl w_t_lengths)), (h_t_rows, .inl (k_cI G, 16, .inl w_t_rows))] := hD
      obtain ⟨t5, et5, hrun⟩ := bd_inv hrun
      refine k_callv (w2 := fun (_ : Unit) => [(h_t, .inr (0, [.ref h_t_changed, .ref h_t_rows, .ref h_t_lengths, .int v_t_count])), (h_t_changed, .inl (k_cI G, 16, .inl t3)), (h_t_lengths, .inl (k_cI G, 16, .inl w_t_lengths)), (h_t_rows, .inl (k_cI G, 16, .inl t5))]) C0 (k_runSN (rest := []) C0 (c_X11_set et5) (va_cnB 3 hts gX0_forgetFirst_X11_set_n28 rfl rfl rfl (k_nw hNW 7 nw_X0_forgetFirst_7) (hts _ u_X0_forgetFirst_6) e_X11_set.2 ⟨Nat.le_of_ble_eq_true rfl, Nat.le_of_ble_eq_true rfl⟩) (hts _ u_X0_forgetFirst_8) hP hD hS [3] rfl (by decide) rfl hl.1 rfl (Nat.le_of_ble_eq_true rfl) dX0_forgetFirst_41 ⟨Nat.le_of_ble_eq_true rfl, Nat.le_of_ble_eq_true rfl⟩) hP hD hS [3] [0, 1, 2] rfl rfl (by decide) (by decide) [0, 1, 2, 3] (by decide) (fun _ => rfl) (fun _ H locs hP hD hS => ?_)
      have hP : va_P G.1 vwCl [(h_t, .inr (0, [.ref h_t_changed, .ref h_t_rows, .ref h_t_lengths, .int v_t_count])), (h_t_changed, .inl (k_cI G, 16, .inl t3)), (h_t_lengths, .inl (k_cI G, 16, .inl w_t_lengths)), (h_t_rows, .inl (k_cI G, 16, .inl t5))] H := hP
      have hD : va_D A [(h_t, .inr (0, [.ref h_t_changed, .ref h_t_rows, .ref h_t_lengths, .int v_t_count])), (h_t_changed, .inl (k_cI G, 16, .inl t3)), (h_t_lengths, .inl (k_cI G, 16, .inl w_t_lengths)), (h_t_rows, .inl (k_cI G, 16, .inl t5))] := hD
      refine lv_aload_n hx hb dX0_forgetFirst_44 rfl (lv_at hl 0 rfl) ?_
      refine va_get (D := G.1) (ci := 0) (v := .ref h_t_lengths) (C := RX0) (T := TX0) (N := 4) hx hb hts n_X0_forgetFirst_X0 hown hK hP 0 rfl rfl 2 (by decide) (hts _ u_X0_forgetFirst_3) (fun _ h9 => h9) rfl dX0_forgetFirst_45 ?_
      refine lv_iload_n hx hb dX0_forgetFirst_48 rfl (lv_at hl 1 rfl) ?_
      refine lv_iconst (v := 1) hx hb dX0_forgetFirst_49 (by decide) ?_
      refine lv_isub hx hb dX0_forgetFirst_50 ?_
      refine lv_aload_n hx hb dX0_forgetFirst_51 rfl (lv_at hl 0 rfl) ?_
      refine va_get (D := G.1) (ci := 0) (v := .ref h_t_lengths) (C := RX0) (T := TX0) (N := 4) hx hb hts n_X0_forgetFirst_X0 hown hK hP 0 rfl rfl 2 (by decide) (hts _ u_X0_forgetFirst_3) (fun _ h9 => h9) rfl dX0_forgetFirst_52 ?_
      refine lv_iload_n hx hb dX0_forgetFirst_55 rfl (lv_at hl 1 rfl) ?_
      obtain ⟨t6, et6, hrun⟩ := bd_inv hrun
      refine k_calli (w2 := fun (_ : Unit) => [(h_t, .inr (0, [.ref h_t_changed, .ref h_t_rows, .ref h_t_lengths, .int v_t_count])), (h_t_changed, .inl (k_cI G, 16, .inl t3)), (h_t_lengths, .inl (k_cI G, 16, .inl w_t_lengths)), (h_t_rows, .inl (k_cI G, 16, .inl t5))]) C0 (k_runSN (rest := [.int (x1 - (1 : Int32)), .ref h_t_lengths]) C0 (c_X11_at et6) (va_cnB 2 hts gX0_forgetFirst_X11_at_n32 rfl rfl rfl (k_nw hNW 8 nw_X0_forgetFirst_8) (hts _ u_X0_forgetFirst_6) e_X11_at.2 ⟨Nat.le_of_ble_eq_true rfl, Nat.le_of_ble_eq_true rfl⟩) (hts _ u_X0_forgetFirst_5) hP hD hS [2] rfl (by decide) rfl hl.1 rfl (Nat.le_of_ble_eq_true rfl) dX0_forgetFirst_56 ⟨Nat.le_of_ble_eq_true rfl, Nat.le_of_ble_eq_true rfl⟩) hP hD hS [2] [0, 1, 3] rfl rfl (by decide) (by decide) [0, 1, 3, 2] (by decide) (fun _ => rfl) (fun _ H locs hP hD hS => ?_)
      have hP : va_P G.1 vwCl [(h_t, .inr (0, [.ref h_t_changed, .ref h_t_rows, .ref h_t_lengths, .int v_t_count])), (h_t_changed, .inl (k_cI G, 16, .inl t3)), (h_t_lengths, .inl (k_cI G, 16, .inl w_t_lengths)), (h_t_rows, .inl (k_cI G, 16, .inl t5))] H := hP
      have hD : va_D A [(h_t, .inr (0, [.ref h_t_changed, .ref h_t_rows, .ref h_t_lengths, .int v_t_count])), (h_t_changed, .inl (k_cI G, 16, .inl t3)), (h_t_lengths, .inl (k_cI G, 16, .inl w_t_lengths)), (h_t_rows, .inl (k_cI G, 16, .inl t5))] := hD
      obtain ⟨t7, et7, hrun⟩ := bd_inv hrun
      refine k_callv (w2 := fun (_ : Unit) => [(h_t, .inr (0, [.ref h_t_changed, .ref h_t_rows, .ref h_t_lengths, .int v_t_count])), (h_t_changed, .inl (k_cI G, 16, .inl t3)), (h_t_lengths, .inl (k_cI G, 16, .inl t7)), (h_t_rows, .inl (k_cI G, 16, .inl t5))]) C0 (k_runSN (rest := []) C0 (c_X11_set et7) (va_cnB 3 hts gX0_forgetFirst_X11_set_n28 rfl rfl rfl (k_nw hNW 7 nw_X0_forgetFirst_7) (hts _ u_X0_forgetFirst_6) e_X11_set.2 ⟨Nat.le_of_ble_eq_true rfl, Nat.le_of_ble_eq_true rfl⟩) (hts _ u_X0_forgetFirst_8) hP hD hS [2] rfl (by decide) rfl hl.1 rfl (Nat.le_of_ble_eq_true rfl) dX0_forgetFirst_59 ⟨Nat.le_of_ble_eq_true rfl, Nat.le_of_ble_eq_true rfl⟩) hP hD hS [2] [0, 1, 3] rfl rfl (by decide) (by decide) [0, 1, 3, 2] (by decide) (fun _ => rfl) (fun _ H locs hP hD hS => ?_)
      have hP : va_P G.1 vwCl [(h_t, .inr (0, [.ref h_t_changed, .ref h_t_rows, .ref h_t_lengths, .int v_t_count])), (h_t_changed, .inl (k_cI G, 16, .inl t3)), (h_t_lengths, .inl (k_cI G, 16, .inl t7)), (h_t_rows, .inl (k_cI G, 16, .inl t5))] H := hP
      have hD : va_D A [(h_t, .inr (0, [.ref h_t_changed, .ref h_t_rows, .ref h_t_lengths, .int v_t_count])), (h_t_changed, .inl (k_cI G, 16, .inl t3)), (h_t_lengths, .inl (k_cI G, 16, .inl t7)), (h_t_rows, .inl (k_cI G, 16, .inl t5))] := hD
      refine lv_iinc (v := x1 + 1) (lv' := [(1, .int (x1 + 1)), (0, .ref h_t)]) hx hb dX0_forgetFirst_62 hl (k := 1) rfl rfl (by decide) rfl (fun ls hl => ?_)
      refine lv_goto (tgt := 2) hx hb dX0_forgetFirst_65 (by decide) ?_
      exact ih (x1 + 1) v_t_count t3 t7 t5 _ _ _ hP hD hS (lv_sub hl [1, 0] rfl) hrun
set_option maxHeartbeats 4000000 in
set_option maxRecDepth 100000 in
theorem c_X0_forgetFirst {l : Launch} {G : k_G} {h_t h_t_changed h_t_lengths h_t_rows : Nat} {sz : Nat} {v_t_count : Int32} {w_t_changed : Nat → Int32} {w_t_lengths : Nat → Int32} {w_t_rows : Nat → Int32} {out : Int32 × (Nat → Int32) × (Nat → Int32) × (Nat → Int32)} (hrun : f_X0_forgetFirst v_t_count w_t_changed w_t_lengths w_t_rows = some out) : k_Cv l G yX0_forgetFirst wsX0_forgetFirst rm_X0_forgetFirst [.ref h_t] [(h_t, .inr (0, [.ref h_t_changed, .ref h_t_rows, .ref h_t_lengths, .int v_t_count])), (h_t_changed, .inl (k_cI G, 16, .inl w_t_changed)), (h_t_lengths, .inl (k_cI G, 16, .inl w_t_lengths)), (h_t_rows, .inl (k_cI G, 16, .inl w_t_rows))] sz (fun (_ : Unit) => [(h_t, .inr (0, [.ref h_t_changed, .ref h_t_rows, .ref h_t_lengths, .int out.1])), (h_t_changed, .inl (k_cI G, 16, .inl out.2.1)), (h_t_lengths, .inl (k_cI G, 16, .inl out.2.2.1)), (h_t_rows, .inl (k_cI G, 16, .inl out.2.2.2))]) 0 0 := by
  refine k_of (cc := cX0_forgetFirst) (nL := 2) (ret := none) (own := RX0) (nm := "forgetFirst") (by decide) rfl rfl rfl rfl ?_
  intro p e s m args below meth c ls hsz C0 hP hD hS hl
  have hl : lv_has ls 2 [(0, .ref h_t)] := hl
  generalize hH : s.heap = H at hP
  have hS : va_S (va_A [(h_t, .inr (0, [.ref h_t_changed, .ref h_t_rows, .ref h_t_lengths, .int v_t_count])), (h_t_changed, .inl (k_cI G, 16, .inl w_t_changed)), (h_t_lengths, .inl (k_cI G, 16, .inl w_t_lengths)), (h_t_rows, .inl (k_cI G, 16, .inl w_t_rows))] sz) s.heap H [] := by rw [← hH]; exact hS
  clear hH
  generalize va_A [(h_t, .inr (0, [.ref h_t_changed, .ref h_t_rows, .ref h_t_lengths, .int v_t_count])), (h_t_changed, .inl (k_cI G, 16, .inl w_t_changed)), (h_t_lengths, .inl (k_cI G, 16, .inl w_t_lengths)), (h_t_rows, .inl (k_cI G, 16, .inl w_t_rows))] sz = A at C0 hD hS ⊢
  have hx := C0.1
  have hb := C0.2.1
  have hts := C0.2.2.2.1
  have hown := C0.2.2.2.2.1
  have hK := C0.2.2.2.2.2.2.2.2.1.1
  have hNW := C0.2.2.2.2.2.2.2.2.1.2.1
  have hSF := C0.2.2.2.2.2.2.2.2.1.2.2
  rw [f_X0_forgetFirst] at hrun
  refine lv_iconst (v := 1) hx hb dX0_forgetFirst_0 (by decide) ?_
  refine lv_istore_n (lv' := [(1, .int (1 : Int32)), (0, .ref h_t)]) hx hb dX0_forgetFirst_1 rfl hl (by decide) rfl (fun ls hl => ?_)
  exact t_X0_forgetFirst_2 C0 kFU (1 : Int32) v_t_count w_t_changed w_t_lengths w_t_rows _ _ _ hP hD hS (lv_sub hl [1, 0] rfl) hrun
theorem u_X0_keep_1 : (Cond.fieldLink RX0 21 "ClosePacking$Acts" "count" "I") ∈ wsX0_keep := List.mem_of_getElem? (i := 1) (by decide +kernel)
theorem u_X0_keep_2 : (Cond.fieldLink RX0 9 "ClosePacking$Acts" "changed" "[I") ∈ wsX0_keep := List.mem_of_getElem? (i := 2) (by decide +kernel)
theorem u_X0_keep_3 : (Cond.fieldLink RX0 15 "ClosePacking$Acts" "rows" "[I") ∈ wsX0_keep := List.mem_of_getElem? (i := 3) (by decide +kernel)
theorem u_X0_keep_4 : (Cond.fieldLink RX0 18 "ClosePacking$Acts" "lengths" "[I") ∈ wsX0_keep := List.mem_of_getElem? (i := 4) (by decide +kernel)
theorem u_X0_keep_11 : (Cond.initialized RX11) ∈ wsX0_keep := List.mem_of_getElem? (i := 11) (by decide +kernel)
theorem u_X0_keep_13 : (Cond.static yX11_set) ∈ wsX0_keep := List.mem_of_getElem? (i := 13) (by decide +kernel)
theorem n_X0_keep_X0 : ∀ w ∈ u_ws RX0 TX0 4, w ∈ wsX0_keep := by decide +kernel
theorem nw_X0_keep_7 : k_nest[7]? = some (.methodLinkNest RX0 28 yX11_set "ClosePacking") := rfl
abbrev rm_X0_keep : Room := { frames := 2, cells := 0, slots := 0, locals := 43 }
theorem e_X0_keep : yX0_keep.cls = RX0 ∧ yX0_keep.cls ≠ "java/lang/invoke/MethodHandle" ∧ yX0_keep.cls ≠ "java/lang/invoke/VarHandle" ∧ (parseMethodDescriptor yX0_keep.desc).map (fun d => d.parameters.length) = some 3 := by decide +kernel
set_option maxHeartbeats 4000000 in
set_option maxRecDepth 100000 in
theorem t_X0_keep_13 {l : Launch} {G : k_G} {p : Program} {e : Env} {s : State} {m : MethodId} {args : Array Value} {below : List Frame} {meth : Method} {c : Code} {A : Nat → Prop} {h_t h_t_changed h_t_lengths h_t_rows : Nat} {out : Int32 × (Nat → Int32) × (Nat → Int32) × (Nat → Int32)} (C0 : k_C G p s m args meth c A cX0_keep RX0 wsX0_keep 4 none "keep") : ∀ (x1 : Int32) (x2 : Int32) (x3 : Int32) (v_t_count : Int32) (w_t_changed : Nat → Int32) (w_t_lengths : Nat → Int32) (w_t_rows : Nat → Int32) (H : Heap) (locs : List Loc) (ls : Array Slot), va_P G.1 vwCl [(h_t, .inr (0, [.ref h_t_changed, .ref h_t_rows, .ref h_t_lengths, .int v_t_count])), (h_t_changed, .inl (k_cI G, 16, .inl w_t_changed)), (h_t_lengths, .inl (k_cI G, 16, .inl w_t_lengths)), (h_t_rows, .inl (k_cI G, 16, .inl w_t_rows))] H → va_D A [(h_t, .inr (0, [.ref h_t_changed, .ref h_t_rows, .ref h_t_lengths, .int v_t_count])), (h_t_changed, .inl (k_cI G, 16, .inl w_t_changed)), (h_t_lengths, .inl (k_cI G, 16, .inl w_t_lengths)), (h_t_rows, .inl (k_cI G, 16, .inl w_t_rows))] → va_S A s.heap H locs → lv_has ls 4 [(0, .ref h_t), (1, .int x1), (2, .int x2), (3, .int x3)] → f_X0_keep_13 x1 x2 x3 v_t_count w_t_changed w_t_lengths w_t_rows = some out → W p l e rm_X0_keep s m args below meth c H locs 0 0 (MQ below (k_Qv G A (fun (_ : Unit) => [(h_t, .inr (0, [.ref h_t_changed, .ref h_t_rows, .ref h_t_lengths, .int out.1])), (h_t_changed, .inl (k_cI G, 16, .inl out.2.1)), (h_t_lengths, .inl (k_cI G, 16, .inl out.2.2.1)), (h_t_rows, .inl (k_cI G, 16, .inl out.2.2.2))])) args s 0 0 A) (F0 m 13 ls []) := by
  have hx := C0.1
  have hb := C0.2.1
  have hts := C0.2.2.2.1
  have hown := C0.2.2.2.2.1
  have hK := C0.2.2.2.2.2.2.2.2.1.1
  have hNW := C0.2.2.2.2.2.2.2.2.1.2.1
  have hSF := C0.2.2.2.2.2.2.2.2.1.2.2
  intro x1 x2 x3 v_t_count w_t_changed w_t_lengths w_t_rows H locs ls hP hD hS hl hrun
  rw [f_X0_keep_13] at hrun
  refine lv_aload_n hx hb dX0_keep_13 rfl (lv_at hl 0 rfl) ?_
  refine va_get (D := G.1) (ci := 0) (v := .ref h_t_changed) (C := RX0) (T := TX0) (N := 4) hx hb hts n_X0_keep_X0 hown hK hP 0 rfl rfl 0 (by decide) (hts _ u_X0_keep_2) (fun _ h9 => h9) rfl dX0_keep_14 ?_
  refine lv_aload_n hx hb dX0_keep_17 rfl (lv_at hl 0 rfl) ?_
  refine va_get (D := G.1) (ci := 0) (v := .int v_t_count) (C := RX0) (T := TX0) (N := 4) hx hb hts n_X0_keep_X0 hown hK hP 0 rfl rfl 3 (by decide) (hts _ u_X0_keep_1) (fun _ h9 => h9) rfl dX0_keep_18 ?_
  refine lv_iload_n hx hb dX0_keep_21 rfl (lv_at hl 1 rfl) ?_
  obtain ⟨t1, et1, hrun⟩ := bd_inv hrun
  refine k_callv (w2 := fun (_ : Unit) => [(h_t, .inr (0, [.ref h_t_changed, .ref h_t_rows, .ref h_t_lengths, .int v_t_count])), (h_t_changed, .inl (k_cI G, 16, .inl t1)), (h_t_lengths, .inl (k_cI G, 16, .inl w_t_lengths)), (h_t_rows, .inl (k_cI G, 16, .inl w_t_rows))]) C0 (k_runSN (rest := []) C0 (c_X11_set et1) (va_cnB 3 hts gX0_keep_X11_set_n28 rfl rfl rfl (k_nw hNW 7 nw_X0_keep_7) (hts _ u_X0_keep_11) e_X11_set.2 ⟨Nat.le_of_ble_eq_true rfl, Nat.le_of_ble_eq_true rfl⟩) (hts _ u_X0_keep_13) hP hD hS [1] rfl (by decide) rfl hl.1 rfl (Nat.le_of_ble_eq_true rfl) dX0_keep_22 ⟨Nat.le_of_ble_eq_true rfl, Nat.le_of_ble_eq_true rfl⟩) hP hD hS [1] [0, 2, 3] rfl rfl (by decide) (by decide) [0, 3, 1, 2] (by decide) (fun _ => rfl) (fun _ H locs hP hD hS => ?_)
  have hP : va_P G.1 vwCl [(h_t, .inr (0, [.ref h_t_changed, .ref h_t_rows, .ref h_t_lengths, .int v_t_count])), (h_t_changed, .inl (k_cI G, 16, .inl t1)), (h_t_lengths, .inl (k_cI G, 16, .inl w_t_lengths)), (h_t_rows, .inl (k_cI G, 16, .inl w_t_rows))] H := hP
  have hD : va_D A [(h_t, .inr (0, [.ref h_t_changed, .ref h_t_rows, .ref h_t_lengths, .int v_t_count])), (h_t_changed, .inl (k_cI G, 16, .inl t1)), (h_t_lengths, .inl (k_cI G, 16, .inl w_t_lengths)), (h_t_rows, .inl (k_cI G, 16, .inl w_t_rows))] := hD
  refine lv_aload_n hx hb dX0_keep_25 rfl (lv_at hl 0 rfl) ?_
  refine va_get (D := G.1) (ci := 0) (v := .ref h_t_rows) (C := RX0) (T := TX0) (N := 4) hx hb hts n_X0_keep_X0 hown hK hP 0 rfl rfl 1 (by decide) (hts _ u_X0_keep_3) (fun _ h9 => h9) rfl dX0_keep_26 ?_
  refine lv_aload_n hx hb dX0_keep_29 rfl (lv_at hl 0 rfl) ?_
  refine va_get (D := G.1) (ci := 0) (v := .int v_t_count) (C := RX0) (T := TX0) (N := 4) hx hb hts n_X0_keep_X0 hown hK hP 0 rfl rfl 3 (by decide) (hts _ u_X0_keep_1) (fun _ h9 => h9) rfl dX0_keep_30 ?_
  refine lv_iload_n hx hb dX0_keep_33 rfl (lv_at hl 2 rfl) ?_
  obtain ⟨t2, et2, hrun⟩ := bd_inv hrun
  refine k_callv (w2 := fun (_ : Unit) => [(h_t, .inr (0, [.ref h_t_changed, .ref h_t_rows, .ref h_t_lengths, .int v_t_count])), (h_t_changed, .inl (k_cI G, 16, .inl t1)), (h_t_lengths, .inl (k_cI G, 16, .inl w_t_lengths)), (h_t_rows, .inl (k_cI G, 16, .inl t2))]) C0 (k_runSN (rest := []) C0 (c_X11_set et2) (va_cnB 3 hts gX0_keep_X11_set_n28 rfl rfl rfl (k_nw hNW 7 nw_X0_keep_7) (hts _ u_X0_keep_11) e_X11_set.2 ⟨Nat.le_of_ble_eq_true rfl, Nat.le_of_ble_eq_true rfl⟩) (hts _ u_X0_keep_13) hP hD hS [3] rfl (by decide) rfl hl.1 rfl (Nat.le_of_ble_eq_true rfl) dX0_keep_34 ⟨Nat.le_of_ble_eq_true rfl, Nat.le_of_ble_eq_true rfl⟩) hP hD hS [3] [0, 1, 2] rfl rfl (by decide) (by decide) [0, 1, 2, 3] (by decide) (fun _ => rfl) (fun _ H locs hP hD hS => ?_)
  have hP : va_P G.1 vwCl [(h_t, .inr (0, [.ref h_t_changed, .ref h_t_rows, .ref h_t_lengths, .int v_t_count])), (h_t_changed, .inl (k_cI G, 16, .inl t1)), (h_t_lengths, .inl (k_cI G, 16, .inl w_t_lengths)), (h_t_rows, .inl (k_cI G, 16, .inl t2))] H := hP
  have hD : va_D A [(h_t, .inr (0, [.ref h_t_changed, .ref h_t_rows, .ref h_t_lengths, .int v_t_count])), (h_t_changed, .inl (k_cI G, 16, .inl t1)), (h_t_lengths, .inl (k_cI G, 16, .inl w_t_lengths)), (h_t_rows, .inl (k_cI G, 16, .inl t2))] := hD
  refine lv_aload_n hx hb dX0_keep_37 rfl (lv_at hl 0 rfl) ?_
  refine va_get (D := G.1) (ci := 0) (v := .ref h_t_lengths) (C := RX0) (T := TX0) (N := 4) hx hb hts n_X0_keep_X0 hown hK hP 0 rfl rfl 2 (by decide) (hts _ u_X0_keep_4) (fun _ h9 => h9) rfl dX0_keep_38 ?_
  refine lv_aload_n hx hb dX0_keep_41 rfl (lv_at hl 0 rfl) ?_
  refine va_get (D := G.1) (ci := 0) (v := .int v_t_count) (C := RX0) (T := TX0) (N := 4) hx hb hts n_X0_keep_X0 hown hK hP 0 rfl rfl 3 (by decide) (hts _ u_X0_keep_1) (fun _ h9 => h9) rfl dX0_keep_42 ?_
  refine lv_iload_n hx hb dX0_keep_45 rfl (lv_at hl 3 rfl) ?_
  obtain ⟨t3, et3, hrun⟩ := bd_inv hrun
  refine k_callv (w2 := fun (_ : Unit) => [(h_t, .inr (0, [.ref h_t_changed, .ref h_t_rows, .ref h_t_lengths, .int v_t_count])), (h_t_changed, .inl (k_cI G, 16, .inl t1)), (h_t_lengths, .inl (k_cI G, 16, .inl t3)), (h_t_rows, .inl (k_cI G, 16, .inl t2))]) C0 (k_runSN (rest := []) C0 (c_X11_set et3) (va_cnB 3 hts gX0_keep_X11_set_n28 rfl rfl rfl (k_nw hNW 7 nw_X0_keep_7) (hts _ u_X0_keep_11) e_X11_set.2 ⟨Nat.le_of_ble_eq_true rfl, Nat.le_of_ble_eq_true rfl⟩) (hts _ u_X0_keep_13) hP hD hS [2] rfl (by decide) rfl hl.1 rfl (Nat.le_of_ble_eq_true rfl) dX0_keep_46 ⟨Nat.le_of_ble_eq_true rfl, Nat.le_of_ble_eq_true rfl⟩) hP hD hS [2] [0, 1, 3] rfl rfl (by decide) (by decide) [0, 1, 3, 2] (by decide) (fun _ => rfl) (fun _ H locs hP hD hS => ?_)
  have hP : va_P G.1 vwCl [(h_t, .inr (0, [.ref h_t_changed, .ref h_t_rows, .ref h_t_lengths, .int v_t_count])), (h_t_changed, .inl (k_cI G, 16, .inl t1)), (h_t_lengths, .inl (k_cI G, 16, .inl t3)), (h_t_rows, .inl (k_cI G, 16, .inl t2))] H := hP
  have hD : va_D A [(h_t, .inr (0, [.ref h_t_changed, .ref h_t_rows, .ref h_t_lengths, .int v_t_count])), (h_t_changed, .inl (k_cI G, 16, .inl t1)), (h_t_lengths, .inl (k_cI G, 16, .inl t3)), (h_t_rows, .inl (k_cI G, 16, .inl t2))] := hD
  refine lv_aload_n hx hb dX0_keep_49 rfl (lv_at hl 0 rfl) ?_
  refine lv_dup hx hb dX0_keep_50 rfl ?_
  refine va_get (D := G.1) (ci := 0) (v := .int v_t_count) (C := RX0) (T := TX0) (N := 4) hx hb hts n_X0_keep_X0 hown hK hP 0 rfl rfl 3 (by decide) (hts _ u_X0_keep_1) (fun _ h9 => h9) rfl dX0_keep_51 ?_
  refine lv_iconst (v := 1) hx hb dX0_keep_54 (by decide) ?_
  refine lv_iadd hx hb dX0_keep_55 ?_
  obtain ⟨n4, en, hrun⟩ := lt_inv hrun
  refine k_nmi en ?_
  clear en
  refine va_put (D := G.1) (ci := 0) (v := .int n4) (ty := .int) (C := RX0) (T := TX0) (N := 4) hx hb hts n_X0_keep_X0 tyX0 tyX0_ok nmX0 hown hK hP hD hS 0 rfl rfl 3 (by decide) (hts _ u_X0_keep_1) (fun _ h9 => h9) rfl (by decide +kernel) rfl rfl (Nat.le_of_ble_eq_true rfl) dX0_keep_56 (fun H locs hP hD hS => ?_)
  have hP : va_P G.1 vwCl [(h_t, .inr (0, [.ref h_t_changed, .ref h_t_rows, .ref h_t_lengths, .int n4])), (h_t_changed, .inl (k_cI G, 16, .inl t1)), (h_t_lengths, .inl (k_cI G, 16, .inl t3)), (h_t_rows, .inl (k_cI G, 16, .inl t2))] H := hP
  have hD : va_D A [(h_t, .inr (0, [.ref h_t_changed, .ref h_t_rows, .ref h_t_lengths, .int n4])), (h_t_changed, .inl (k_cI G, 16, .inl t1)), (h_t_lengths, .inl (k_cI G, 16, .inl t3)), (h_t_rows, .inl (k_cI G, 16, .inl t2))] := hD
  obtain rfl := Option.some.inj hrun
  exact k_retv C0 hP hD hS () rfl dX0_keep_59
set_option maxHeartbeats 4000000 in
set_option maxRecDepth 100000 in
theorem c_X0_keep {l : Launch} {G : k_G} {h_t h_t_changed h_t_lengths h_t_rows : Nat} {sz : Nat} {p1 : Int32} {p2 : Int32} {p3 : Int32} {v_t_count : Int32} {w_t_changed : Nat → Int32} {w_t_lengths : Nat → Int32} {w_t_rows : Nat → Int32} {out : Int32 × (Nat → Int32) × (Nat → Int32) × (Nat → Int32)} (hrun : f_X0_keep p1 p2 p3 v_t_count w_t_changed w_t_lengths w_t_rows = some out) : k_Cv l G yX0_keep wsX0_keep rm_X0_keep [.ref h_t, .int p1, .int p2, .int p3] [(h_t, .inr (0, [.ref h_t_changed, .ref h_t_rows, .ref h_t_lengths, .int v_t_count])), (h_t_changed, .inl (k_cI G, 16, .inl w_t_changed)), (h_t_lengths, .inl (k_cI G, 16, .inl w_t_lengths)), (h_t_rows, .inl (k_cI G, 16, .inl w_t_rows))] sz (fun (_ : Unit) => [(h_t, .inr (0, [.ref h_t_changed, .ref h_t_rows, .ref h_t_lengths, .int out.1])), (h_t_changed, .inl (k_cI G, 16, .inl out.2.1)), (h_t_lengths, .inl (k_cI G, 16, .inl out.2.2.1)), (h_t_rows, .inl (k_cI G, 16, .inl out.2.2.2))]) 0 0 := by
  refine k_of (cc := cX0_keep) (nL := 4) (ret := none) (own := RX0) (nm := "keep") (by decide) rfl rfl rfl rfl ?_
  intro p e s m args below meth c ls hsz C0 hP hD hS hl
  have hl : lv_has ls 4 [(0, .ref h_t), (1, .int p1), (2, .int p2), (3, .int p3)] := hl
  generalize hH : s.heap = H at hP
  have hS : va_S (va_A [(h_t, .inr (0, [.ref h_t_changed, .ref h_t_rows, .ref h_t_lengths, .int v_t_count])), (h_t_changed, .inl (k_cI G, 16, .inl w_t_changed)), (h_t_lengths, .inl (k_cI G, 16, .inl w_t_lengths)), (h_t_rows, .inl (k_cI G, 16, .inl w_t_rows))] sz) s.heap H [] := by rw [← hH]; exact hS
  clear hH
  generalize va_A [(h_t, .inr (0, [.ref h_t_changed, .ref h_t_rows, .ref h_t_lengths, .int v_t_count])), (h_t_changed, .inl (k_cI G, 16, .inl w_t_changed)), (h_t_lengths, .inl (k_cI G, 16, .inl w_t_lengths)), (h_t_rows, .inl (k_cI G, 16, .inl w_t_rows))] sz = A at C0 hD hS ⊢
  have hx := C0.1
  have hb := C0.2.1
  have hts := C0.2.2.2.1
  have hown := C0.2.2.2.2.1
  have hK := C0.2.2.2.2.2.2.2.2.1.1
  have hNW := C0.2.2.2.2.2.2.2.2.1.2.1
  have hSF := C0.2.2.2.2.2.2.2.2.1.2.2
  rw [f_X0_keep] at hrun
  refine lv_aload_n hx hb dX0_keep_0 rfl (lv_at hl 0 rfl) ?_
  refine va_get (D := G.1) (ci := 0) (v := .int v_t_count) (C := RX0) (T := TX0) (N := 4) hx hb hts n_X0_keep_X0 hown hK hP 0 rfl rfl 3 (by decide) (hts _ u_X0_keep_1) (fun _ h9 => h9) rfl dX0_keep_1 ?_
  refine lv_bipush (v := 16) hx hb dX0_keep_4 (by decide) ?_
  refine lv_icmp_lt (tgt := 13) hx hb dX0_keep_6 (by decide) (fun q1 => ?_) (fun q1 => ?_)
  · replace hrun := if_t q1 hrun
    exact t_X0_keep_13 C0 p1 p2 p3 v_t_count w_t_changed w_t_lengths w_t_rows _ _ _ hP hD hS hl hrun
  · replace hrun := if_f q1 hrun
    refine lv_aload_n hx hb dX0_keep_9 rfl (lv_at hl 0 rfl) ?_
    obtain ⟨t2, et2, hrun⟩ := bd_inv hrun
    refine k_callv (w2 := fun (_ : Unit) => [(h_t, .inr (0, [.ref h_t_changed, .ref h_t_rows, .ref h_t_lengths, .int t2.1])), (h_t_changed, .inl (k_cI G, 16, .inl t2.2.1)), (h_t_lengths, .inl (k_cI G, 16, .inl t2.2.2.1)), (h_t_rows, .inl (k_cI G, 16, .inl t2.2.2.2))]) C0 (k_runV (rest := []) C0 (c_X0_forgetFirst et2) (cwV 0 hts gX0_keep_X0_forgetFirst rfl rfl rfl e_X0_forgetFirst ⟨Nat.le_of_ble_eq_true rfl, Nat.le_of_ble_eq_true rfl⟩) hP hD hS [0, 1, 2, 3] rfl (by decide) 0 (qc := (RX0, TX0, 4)) rfl rfl rfl rfl hl.1 rfl (Nat.le_of_ble_eq_true rfl) dX0_keep_10 ⟨Nat.le_of_ble_eq_true rfl, Nat.le_of_ble_eq_true rfl⟩) hP hD hS [0, 1, 2, 3] [] rfl rfl (by decide) (by decide) [0, 1, 2, 3] (by decide) (fun _ => rfl) (fun _ H locs hP hD hS => ?_)
    have hP : va_P G.1 vwCl [(h_t, .inr (0, [.ref h_t_changed, .ref h_t_rows, .ref h_t_lengths, .int t2.1])), (h_t_changed, .inl (k_cI G, 16, .inl t2.2.1)), (h_t_lengths, .inl (k_cI G, 16, .inl t2.2.2.1)), (h_t_rows, .inl (k_cI G, 16, .inl t2.2.2.2))] H := hP
    have hD : va_D A [(h_t, .inr (0, [.ref h_t_changed, .ref h_t_rows, .ref h_t_lengths, .int t2.1])), (h_t_changed, .inl (k_cI G, 16, .inl t2.2.1)), (h_t_lengths, .inl (k_cI G, 16, .inl t2.2.2.1)), (h_t_rows, .inl (k_cI G, 16, .inl t2.2.2.2))] := hD
    exact t_X0_keep_13 C0 p1 p2 p3 t2.1 t2.2.1 t2.2.2.1 t2.2.2.2 _ _ _ hP hD hS hl hrun
theorem u_X0_takeBack_1 : (Cond.fieldLink RX0 21 "ClosePacking$Acts" "count" "I") ∈ wsX0_takeBack := List.mem_of_getElem? (i := 1) (by decide +kernel)
theorem u_X0_takeBack_2 : (Cond.fieldLink RX0 9 "ClosePacking$Acts" "changed" "[I") ∈ wsX0_takeBack := List.mem_of_getElem? (i := 2) (by decide +kernel)
theorem u_X0_takeBack_3 : (Cond.fieldLink RX0 15 "ClosePacking$Acts" "rows" "[I") ∈ wsX0_takeBack := List.mem_of_getElem? (i := 3) (by decide +kernel)
theorem u_X0_takeBack_4 : (Cond.fieldLink RX0 18 "ClosePacking$Acts" "lengths" "[I") ∈ wsX0_takeBack := List.mem_of_getElem? (i := 4) (by decide +kernel)
theorem u_X0_takeBack_5 : (Cond.static yX11_at) ∈ wsX0_takeBack := List.mem_of_getElem? (i := 5) (by decide +kernel)
theorem u_X0_takeBack_6 : (Cond.initialized RX11) ∈ wsX0_takeBack := List.mem_of_getElem? (i := 6) (by decide +kernel)
theorem n_X0_takeBack_X0 : ∀ w ∈ u_ws RX0 TX0 4, w ∈ wsX0_takeBack := by decide +kernel
theorem nw_X0_takeBack_8 : k_nest[8]? = some (.methodLinkNest RX0 32 yX11_at "ClosePacking") := rfl
abbrev rm_X0_takeBack : Room := { frames := 2, cells := 0, slots := 0, locals := 45 }
theorem e_X0_takeBack : yX0_takeBack.cls = RX0 ∧ yX0_takeBack.cls ≠ "java/lang/invoke/MethodHandle" ∧ yX0_takeBack.cls ≠ "java/lang/invoke/VarHandle" ∧ (parseMethodDescriptor yX0_takeBack.desc).map (fun d => d.parameters.length) = some 1 := by decide +kernel
set_option maxHeartbeats 4000000 in
set_option maxRecDepth 100000 in
theorem c_X0_takeBack {l : Launch} {G : k_G} {h_a1 h_a1_lengths h_a1_rows h_t h_t_changed h_t_lengths h_t_rows : Nat} {g_a1_count : Value} {sz : Nat} {v_t_count : Int32} {w_a1_lengths : Nat → Int32} {w_a1_rows : Nat → Int32} {w_t_changed : Nat → Int32} {w_t_lengths : Nat → Int32} {w_t_rows : Nat → Int32} {out : Int32 × (Nat → Int32) × (Nat → Int32)} (hrun : f_X0_takeBack v_t_count w_a1_lengths w_a1_rows w_t_changed w_t_lengths w_t_rows = some out) : k_Cv l G yX0_takeBack wsX0_takeBack rm_X0_takeBack [.ref h_t, .ref h_a1] [(h_a1, .inr (6, [.ref h_a1_rows, .ref h_a1_lengths, g_a1_count])), (h_a1_lengths, .inl (k_cI G, 5, .inl w_a1_lengths)), (h_a1_rows, .inl (k_cI G, 5, .inl w_a1_rows)), (h_t, .inr (0, [.ref h_t_changed, .ref h_t_rows, .ref h_t_lengths, .int v_t_count])), (h_t_changed, .inl (k_cI G, 16, .inl w_t_changed)), (h_t_lengths, .inl (k_cI G, 16, .inl w_t_lengths)), (h_t_rows, .inl (k_cI G, 16, .inl w_t_rows))] sz (fun (_ : Unit) => [(h_a1, .inr (6, [.ref h_a1_rows, .ref h_a1_lengths, g_a1_count])), (h_a1_lengths, .inl (k_cI G, 5, .inl out.2.1)), (h_a1_rows, .inl (k_cI G, 5, .inl out.2.2)), (h_t, .inr (0, [.ref h_t_changed, .ref h_t_rows, .ref h_t_lengths, .int out.1])), (h_t_changed, .inl (k_cI G, 16, .inl w_t_changed)), (h_t_lengths, .inl (k_cI G, 16, .inl w_t_lengths)), (h_t_rows, .inl (k_cI G, 16, .inl w_t_rows))]) 0 0 := by
  refine k_of (cc := cX0_takeBack) (nL := 2) (ret := none) (own := RX0) (nm := "takeBack") (by decide) rfl rfl rfl rfl ?_
  intro p e s m args below meth c ls hsz C0 hP hD hS hl
  have hl : lv_has ls 2 [(0, .ref h_t), (1, .ref h_a1)] := hl
  generalize hH : s.heap = H at hP
  have hS : va_S (va_A [(h_a1, .inr (6, [.ref h_a1_rows, .ref h_a1_lengths, g_a1_count])), (h_a1_lengths, .inl (k_cI G, 5, .inl w_a1_lengths)), (h_a1_rows, .inl (k_cI G, 5, .inl w_a1_rows)), (h_t, .inr (0, [.ref h_t_changed, .ref h_t_rows, .ref h_t_lengths, .int v_t_count])), (h_t_changed, .inl (k_cI G, 16, .inl w_t_changed)), (h_t_lengths, .inl (k_cI G, 16, .inl w_t_lengths)), (h_t_rows, .inl (k_cI G, 16, .inl w_t_rows))] sz) s.heap H [] := by rw [← hH]; exact hS
  clear hH
  generalize va_A [(h_a1, .inr (6, [.ref h_a1_rows, .ref h_a1_lengths, g_a1_count])), (h_a1_lengths, .inl (k_cI G, 5, .inl w_a1_lengths)), (h_a1_rows, .inl (k_cI G, 5, .inl w_a1_rows)), (h_t, .inr (0, [.ref h_t_changed, .ref h_t_rows, .ref h_t_lengths, .int v_t_count])), (h_t_changed, .inl (k_cI G, 16, .inl w_t_changed)), (h_t_lengths, .inl (k_cI G, 16, .inl w_t_lengths)), (h_t_rows, .inl (k_cI G, 16, .inl w_t_rows))] sz = A at C0 hD hS ⊢
  have hx := C0.1
  have hb := C0.2.1
  have hts := C0.2.2.2.1
  have hown := C0.2.2.2.2.1
  have hK := C0.2.2.2.2.2.2.2.2.1.1
  have hNW := C0.2.2.2.2.2.2.2.2.1.2.1
  have hSF := C0.2.2.2.2.2.2.2.2.1.2.2
  rw [f_X0_takeBack] at hrun
  refine lv_aload_n hx hb dX0_takeBack_0 rfl (lv_at hl 0 rfl) ?_
  refine va_get (D := G.1) (ci := 0) (v := .int v_t_count) (C := RX0) (T := TX0) (N := 4) hx hb hts n_X0_takeBack_X0 hown hK hP 3 rfl rfl 3 (by decide) (hts _ u_X0_takeBack_1) (fun _ h9 => h9) rfl dX0_takeBack_1 ?_
  refine lv_if_le (tgt := 54) hx hb dX0_takeBack_4 (by decide) (fun q1 => ?_) (fun q1 => ?_)
  · replace hrun := if_t q1 hrun
    obtain rfl := Option.some.inj hrun
    exact k_retv C0 hP hD hS () rfl dX0_takeBack_54
  · replace hrun := if_f q1 hrun
    refine lv_aload_n hx hb dX0_takeBack_7 rfl (lv_at hl 0 rfl) ?_
    refine lv_dup hx hb dX0_takeBack_8 rfl ?_
    refine va_get (D := G.1) (ci := 0) (v := .int v_t_count) (C := RX0) (T := TX0) (N := 4) hx hb hts n_X0_takeBack_X0 hown hK hP 3 rfl rfl 3 (by decide) (hts _ u_X0_takeBack_1) (fun _ h9 => h9) rfl dX0_takeBack_9 ?_
    refine lv_iconst (v := 1) hx hb dX0_takeBack_12 (by decide) ?_
    refine lv_isub hx hb dX0_takeBack_13 ?_
    obtain ⟨n2, en, hrun⟩ := lt_inv hrun
    refine k_nmi en ?_
    clear en
    refine va_put (D := G.1) (ci := 0) (v := .int n2) (ty := .int) (C := RX0) (T := TX0) (N := 4) hx hb hts n_X0_takeBack_X0 tyX0 tyX0_ok nmX0 hown hK hP hD hS 3 rfl rfl 3 (by decide) (hts _ u_X0_takeBack_1) (fun _ h9 => h9) rfl (by decide +kernel) rfl rfl (Nat.le_of_ble_eq_true rfl) dX0_takeBack_14 (fun H locs hP hD hS => ?_)
    have hP : va_P G.1 vwCl [(h_a1, .inr (6, [.ref h_a1_rows, .ref h_a1_lengths, g_a1_count])), (h_a1_lengths, .inl (k_cI G, 5, .inl w_a1_lengths)), (h_a1_rows, .inl (k_cI G, 5, .inl w_a1_rows)), (h_t, .inr (0, [.ref h_t_changed, .ref h_t_rows, .ref h_t_lengths, .int n2])), (h_t_changed, .inl (k_cI G, 16, .inl w_t_changed)), (h_t_lengths, .inl (k_cI G, 16, .inl w_t_lengths)), (h_t_rows, .inl (k_cI G, 16, .inl w_t_rows))] H := hP
    have hD : va_D A [(h_a1, .inr (6, [.ref h_a1_rows, .ref h_a1_lengths, g_a1_count])), (h_a1_lengths, .inl (k_cI G, 5, .inl w_a1_lengths)), (h_a1_rows, .inl (k_cI G, 5, .inl w_a1_rows)), (h_t, .inr (0, [.ref h_t_changed, .ref h_t_rows, .ref h_t_lengths, .int n2])), (h_t_changed, .inl (k_cI G, 16, .inl w_t_changed)), (h_t_lengths, .inl (k_cI G, 16, .inl w_t_lengths)), (h_t_rows, .inl (k_cI G, 16, .inl w_t_rows))] := hD
    refine lv_aload_n hx hb dX0_takeBack_17 rfl (lv_at hl 1 rfl) ?_
    refine lv_aload_n hx hb dX0_takeBack_18 rfl (lv_at hl 0 rfl) ?_
    refine va_get (D := G.1) (ci := 0) (v := .ref h_t_changed) (C := RX0) (T := TX0) (N := 4) hx hb hts n_X0_takeBack_X0 hown hK hP 3 rfl rfl 0 (by decide) (hts _ u_X0_takeBack_2) (fun _ h9 => h9) rfl dX0_takeBack_19 ?_
    refine lv_aload_n hx hb dX0_takeBack_22 rfl (lv_at hl 0 rfl) ?_
    refine va_get (D := G.1) (ci := 0) (v := .int n2) (C := RX0) (T := TX0) (N := 4) hx hb hts n_X0_takeBack_X0 hown hK hP 3 rfl rfl 3 (by decide) (hts _ u_X0_takeBack_1) (fun _ h9 => h9) rfl dX0_takeBack_23 ?_
    obtain ⟨t3, et3, hrun⟩ := bd_inv hrun
    refine k_calli (w2 := fun (_ : Unit) => [(h_a1, .inr (6, [.ref h_a1_rows, .ref h_a1_lengths, g_a1_count])), (h_a1_lengths, .inl (k_cI G, 5, .inl w_a1_lengths)), (h_a1_rows, .inl (k_cI G, 5, .inl w_a1_rows)), (h_t, .inr (0, [.ref h_t_changed, .ref h_t_rows, .ref h_t_lengths, .int n2])), (h_t_changed, .inl (k_cI G, 16, .inl w_t_changed)), (h_t_lengths, .inl (k_cI G, 16, .inl w_t_lengths)), (h_t_rows, .inl (k_cI G, 16, .inl w_t_rows))]) C0 (k_runSN (rest := [.ref h_a1]) C0 (c_X11_at et3) (va_cnB 2 hts gX0_takeBack_X11_at_n32 rfl rfl rfl (k_nw hNW 8 nw_X0_takeBack_8) (hts _ u_X0_takeBack_6) e_X11_at.2 ⟨Nat.le_of_ble_eq_true rfl, Nat.le_of_ble_eq_true rfl⟩) (hts _ u_X0_takeBack_5) hP hD hS [4] rfl (by decide) rfl hl.1 rfl (Nat.le_of_ble_eq_true rfl) dX0_takeBack_26 ⟨Nat.le_of_ble_eq_true rfl, Nat.le_of_ble_eq_true rfl⟩) hP hD hS [4] [0, 1, 2, 3, 5, 6] rfl rfl (by decide) (by decide) [0, 1, 2, 3, 6, 4, 5] (by decide) (fun _ => rfl) (fun _ H locs hP hD hS => ?_)
    have hP : va_P G.1 vwCl [(h_a1, .inr (6, [.ref h_a1_rows, .ref h_a1_lengths, g_a1_count])), (h_a1_lengths, .inl (k_cI G, 5, .inl w_a1_lengths)), (h_a1_rows, .inl (k_cI G, 5, .inl w_a1_rows)), (h_t, .inr (0, [.ref h_t_changed, .ref h_t_rows, .ref h_t_lengths, .int n2])), (h_t_changed, .inl (k_cI G, 16, .inl w_t_changed)), (h_t_lengths, .inl (k_cI G, 16, .inl w_t_lengths)), (h_t_rows, .inl (k_cI G, 16, .inl w_t_rows))] H := hP
    have hD : va_D A [(h_a1, .inr (6, [.ref h_a1_rows, .ref h_a1_lengths, g_a1_count])), (h_a1_lengths, .inl (k_cI G, 5, .inl w_a1_lengths)), (h_a1_rows, .inl (k_cI G, 5, .inl w_a1_rows)), (h_t, .inr (0, [.ref h_t_changed, .ref h_t_rows, .ref h_t_lengths, .int n2])), (h_t_changed, .inl (k_cI G, 16, .inl w_t_changed)), (h_t_lengths, .inl (k_cI G, 16, .inl w_t_lengths)), (h_t_rows, .inl (k_cI G, 16, .inl w_t_rows))] := hD
    refine lv_aload_n hx hb dX0_takeBack_29 rfl (lv_at hl 0 rfl) ?_
    refine va_get (D := G.1) (ci := 0) (v := .ref h_t_rows) (C := RX0) (T := TX0) (N := 4) hx hb hts n_X0_takeBack_X0 hown hK hP 3 rfl rfl 1 (by decide) (hts _ u_X0_takeBack_3) (fun _ h9 => h9) rfl dX0_takeBack_30 ?_
    refine lv_aload_n hx hb dX0_takeBack_33 rfl (lv_at hl 0 rfl) ?_
    refine va_get (D := G.1) (ci := 0) (v := .int n2) (C := RX0) (T := TX0) (N := 4) hx hb hts n_X0_takeBack_X0 hown hK hP 3 rfl rfl 3 (by decide) (hts _ u_X0_takeBack_1) (fun _ h9 => h9) rfl dX0_takeBack_34 ?_
    obtain ⟨t4, et4, hrun⟩ := bd_inv hrun
    refine k_calli (w2 := fun (_ : Unit) => [(h_a1, .inr (6, [.ref h_a1_rows, .ref h_a1_lengths, g_a1_count])), (h_a1_lengths, .inl (k_cI G, 5, .inl w_a1_lengths)), (h_a1_rows, .inl (k_cI G, 5, .inl w_a1_rows)), (h_t, .inr (0, [.ref h_t_changed, .ref h_t_rows, .ref h_t_lengths, .int n2])), (h_t_changed, .inl (k_cI G, 16, .inl w_t_changed)), (h_t_lengths, .inl (k_cI G, 16, .inl w_t_lengths)), (h_t_rows, .inl (k_cI G, 16, .inl w_t_rows))]) C0 (k_runSN (rest := [.int t3, .ref h_a1]) C0 (c_X11_at et4) (va_cnB 2 hts gX0_takeBack_X11_at_n32 rfl rfl rfl (k_nw hNW 8 nw_X0_takeBack_8) (hts _ u_X0_takeBack_6) e_X11_at.2 ⟨Nat.le_of_ble_eq_true rfl, Nat.le_of_ble_eq_true rfl⟩) (hts _ u_X0_takeBack_5) hP hD hS [6] rfl (by decide) rfl hl.1 rfl (Nat.le_of_ble_eq_true rfl) dX0_takeBack_37 ⟨Nat.le_of_ble_eq_true rfl, Nat.le_of_ble_eq_true rfl⟩) hP hD hS [6] [0, 1, 2, 3, 4, 5] rfl rfl (by decide) (by decide) [0, 1, 2, 3, 4, 5, 6] (by decide) (fun _ => rfl) (fun _ H locs hP hD hS => ?_)
    have hP : va_P G.1 vwCl [(h_a1, .inr (6, [.ref h_a1_rows, .ref h_a1_lengths, g_a1_count])), (h_a1_lengths, .inl (k_cI G, 5, .inl w_a1_lengths)), (h_a1_rows, .inl (k_cI G, 5, .inl w_a1_rows)), (h_t, .inr (0, [.ref h_t_changed, .ref h_t_rows, .ref h_t_lengths, .int n2])), (h_t_changed, .inl (k_cI G, 16, .inl w_t_changed)), (h_t_lengths, .inl (k_cI G, 16, .inl w_t_lengths)), (h_t_rows, .inl (k_cI G, 16, .inl w_t_rows))] H := hP
    have hD : va_D A [(h_a1, .inr (6, [.ref h_a1_rows, .ref h_a1_lengths, g_a1_count])), (h_a1_lengths, .inl (k_cI G, 5, .inl w_a1_lengths)), (h_a1_rows, .inl (k_cI G, 5, .inl w_a1_rows)), (h_t, .inr (0, [.ref h_t_changed, .ref h_t_rows, .ref h_t_lengths, .int n2])), (h_t_changed, .inl (k_cI G, 16, .inl w_t_changed)), (h_t_lengths, .inl (k_cI G, 16, .inl w_t_lengths)), (h_t_rows, .inl (k_cI G, 16, .inl w_t_rows))] := hD
    refine lv_aload_n hx hb dX0_takeBack_40 rfl (lv_at hl 0 rfl) ?_
    refine va_get (D := G.1) (ci := 0) (v := .ref h_t_lengths) (C := RX0) (T := TX0) (N := 4) hx hb hts n_X0_takeBack_X0 hown hK hP 3 rfl rfl 2 (by decide) (hts _ u_X0_takeBack_4) (fun _ h9 => h9) rfl dX0_takeBack_41 ?_
    refine lv_aload_n hx hb dX0_takeBack_44 rfl (lv_at hl 0 rfl) ?_
    refine va_get (D := G.1) (ci := 0) (v := .int n2) (C := RX0) (T := TX0) (N := 4) hx hb hts n_X0_takeBack_X0 hown hK hP 3 rfl rfl 3 (by decide) (hts _ u_X0_takeBack_1) (fun _ h9 => h9) rfl dX0_takeBack_45 ?_
    obtain ⟨t5, et5, hrun⟩ := bd_inv hrun
    refine k_calli (w2 := fun (_ : Unit) => [(h_a1, .inr (6, [.ref h_a1_rows, .ref h_a1_lengths, g_a1_count])), (h_a1_lengths, .inl (k_cI G, 5, .inl w_a1_lengths)), (h_a1_rows, .inl (k_cI G, 5, .inl w_a1_rows)), (h_t, .inr (0, [.ref h_t_changed, .ref h_t_rows, .ref h_t_lengths, .int n2])), (h_t_changed, .inl (k_cI G, 16, .inl w_t_changed)), (h_t_lengths, .inl (k_cI G, 16, .inl w_t_lengths)), (h_t_rows, .inl (k_cI G, 16, .inl w_t_rows))]) C0 (k_runSN (rest := [.int t4, .int t3, .ref h_a1]) C0 (c_X11_at et5) (va_cnB 2 hts gX0_takeBack_X11_at_n32 rfl rfl rfl (k_nw hNW 8 nw_X0_takeBack_8) (hts _ u_X0_takeBack_6) e_X11_at.2 ⟨Nat.le_of_ble_eq_true rfl, Nat.le_of_ble_eq_true rfl⟩) (hts _ u_X0_takeBack_5) hP hD hS [5] rfl (by decide) rfl hl.1 rfl (Nat.le_of_ble_eq_true rfl) dX0_takeBack_48 ⟨Nat.le_of_ble_eq_true rfl, Nat.le_of_ble_eq_true rfl⟩) hP hD hS [5] [0, 1, 2, 3, 4, 6] rfl rfl (by decide) (by decide) [0, 1, 2, 3, 4, 6, 5] (by decide) (fun _ => rfl) (fun _ H locs hP hD hS => ?_)
    have hP : va_P G.1 vwCl [(h_a1, .inr (6, [.ref h_a1_rows, .ref h_a1_lengths, g_a1_count])), (h_a1_lengths, .inl (k_cI G, 5, .inl w_a1_lengths)), (h_a1_rows, .inl (k_cI G, 5, .inl w_a1_rows)), (h_t, .inr (0, [.ref h_t_changed, .ref h_t_rows, .ref h_t_lengths, .int n2])), (h_t_changed, .inl (k_cI G, 16, .inl w_t_changed)), (h_t_lengths, .inl (k_cI G, 16, .inl w_t_lengths)), (h_t_rows, .inl (k_cI G, 16, .inl w_t_rows))] H := hP
    have hD : va_D A [(h_a1, .inr (6, [.ref h_a1_rows, .ref h_a1_lengths, g_a1_count])), (h_a1_lengths, .inl (k_cI G, 5, .inl w_a1_lengths)), (h_a1_rows, .inl (k_cI G, 5, .inl w_a1_rows)), (h_t, .inr (0, [.ref h_t_changed, .ref h_t_rows, .ref h_t_lengths, .int n2])), (h_t_changed, .inl (k_cI G, 16, .inl w_t_changed)), (h_t_lengths, .inl (k_cI G, 16, .inl w_t_lengths)), (h_t_rows, .inl (k_cI G, 16, .inl w_t_rows))] := hD
    obtain ⟨t6, et6, hrun⟩ := bd_inv hrun
    refine k_callv (w2 := fun (_ : Unit) => [(h_a1, .inr (6, [.ref h_a1_rows, .ref h_a1_lengths, g_a1_count])), (h_a1_lengths, .inl (k_cI G, 5, .inl t6.1)), (h_a1_rows, .inl (k_cI G, 5, .inl t6.2)), (h_t, .inr (0, [.ref h_t_changed, .ref h_t_rows, .ref h_t_lengths, .int n2])), (h_t_changed, .inl (k_cI G, 16, .inl w_t_changed)), (h_t_lengths, .inl (k_cI G, 16, .inl w_t_lengths)), (h_t_rows, .inl (k_cI G, 16, .inl w_t_rows))]) C0 (k_runV (rest := []) C0 (c_X9_put et6) (cwV 3 hts gX0_takeBack_X9_put rfl rfl rfl e_X9_put ⟨Nat.le_of_ble_eq_true rfl, Nat.le_of_ble_eq_true rfl⟩) hP hD hS [0, 1, 2] rfl (by decide) 0 (qc := (RX9, TX9, 3)) rfl rfl rfl rfl hl.1 rfl (Nat.le_of_ble_eq_true rfl) dX0_takeBack_51 ⟨Nat.le_of_ble_eq_true rfl, Nat.le_of_ble_eq_true rfl⟩) hP hD hS [0, 1, 2] [3, 4, 5, 6] rfl rfl (by decide) (by decide) [4, 5, 6, 0, 1, 2, 3] (by decide) (fun _ => rfl) (fun _ H locs hP hD hS => ?_)
    have hP : va_P G.1 vwCl [(h_a1, .inr (6, [.ref h_a1_rows, .ref h_a1_lengths, g_a1_count])), (h_a1_lengths, .inl (k_cI G, 5, .inl t6.1)), (h_a1_rows, .inl (k_cI G, 5, .inl t6.2)), (h_t, .inr (0, [.ref h_t_changed, .ref h_t_rows, .ref h_t_lengths, .int n2])), (h_t_changed, .inl (k_cI G, 16, .inl w_t_changed)), (h_t_lengths, .inl (k_cI G, 16, .inl w_t_lengths)), (h_t_rows, .inl (k_cI G, 16, .inl w_t_rows))] H := hP
    have hD : va_D A [(h_a1, .inr (6, [.ref h_a1_rows, .ref h_a1_lengths, g_a1_count])), (h_a1_lengths, .inl (k_cI G, 5, .inl t6.1)), (h_a1_rows, .inl (k_cI G, 5, .inl t6.2)), (h_t, .inr (0, [.ref h_t_changed, .ref h_t_rows, .ref h_t_lengths, .int n2])), (h_t_changed, .inl (k_cI G, 16, .inl w_t_changed)), (h_t_lengths, .inl (k_cI G, 16, .inl w_t_lengths)), (h_t_rows, .inl (k_cI G, 16, .inl w_t_rows))] := hD
    obtain rfl := Option.some.inj hrun
    exact k_retv C0 hP hD hS () rfl dX0_takeBack_54
theorem u_X3_init_1 : (Cond.methodLink RX3 3 objectInit) ∈ wsX3_init := List.mem_of_getElem? (i := 1) (by decide +kernel)
theorem u_X3_init_2 : (Cond.instanceMethod objectInit) ∈ wsX3_init := List.mem_of_getElem? (i := 2) (by decide +kernel)
theorem u_X3_init_3 : (Cond.code objectInit ⟨#[0xb1]⟩ 1 none) ∈ wsX3_init := List.mem_of_getElem? (i := 3) (by decide +kernel)
theorem u_X3_init_4 : (Cond.arrayClass .int) ∈ wsX3_init := List.mem_of_getElem? (i := 4) (by decide +kernel)
theorem u_X3_init_5 : (Cond.fieldLink RX3 9 "ClosePacking$Images" "rows" "[I") ∈ wsX3_init := List.mem_of_getElem? (i := 5) (by decide +kernel)
theorem u_X3_init_6 : (Cond.fieldLink RX3 15 "ClosePacking$Images" "lengths" "[I") ∈ wsX3_init := List.mem_of_getElem? (i := 6) (by decide +kernel)
theorem n_X3_init_X3 : ∀ w ∈ u_ws RX3 TX3 3, w ∈ wsX3_init := by decide +kernel
abbrev rm_X3_init : Room := { frames := 1, cells := 2, slots := 30, locals := 20 }
theorem e_X3_init : yX3_init.cls = RX3 ∧ yX3_init.cls ≠ "java/lang/invoke/MethodHandle" ∧ yX3_init.cls ≠ "java/lang/invoke/VarHandle" ∧ (parseMethodDescriptor yX3_init.desc).map (fun d => d.parameters.length) = some 0 := by decide +kernel
set_option maxHeartbeats 4000000 in
set_option maxRecDepth 100000 in
theorem c_X3_init {l : Launch} {G : k_G} {h_t : Nat} {g_t_rows g_t_lengths g_t_count : Value} {sz : Nat} {out : Unit} (hrun : f_X3_init  = some out) : k_Cv l G yX3_init wsX3_init rm_X3_init [.ref h_t] [(h_t, .inr (1, [g_t_rows, g_t_lengths, g_t_count]))] sz (fun (u : Nat × Nat) => [(h_t, .inr (1, [.ref u.1, .ref u.2, g_t_count])), (u.1, .inl (k_cI G, 15, .inl (fun _ => 0))), (u.2, .inl (k_cI G, 15, .inl (fun _ => 0)))]) 2 30 := by
  refine k_of (cc := cX3_init) (nL := 1) (ret := none) (own := RX3) (nm := "<init>") (by decide) rfl rfl rfl rfl ?_
  intro p e s m args below meth c ls hsz C0 hP hD hS hl
  have hl : lv_has ls 1 [(0, .ref h_t)] := hl
  generalize hH : s.heap = H at hP
  have hS : va_S (va_A [(h_t, .inr (1, [g_t_rows, g_t_lengths, g_t_count]))] sz) s.heap H [] := by rw [← hH]; exact hS
  clear hH
  generalize va_A [(h_t, .inr (1, [g_t_rows, g_t_lengths, g_t_count]))] sz = A at C0 hD hS ⊢
  have hx := C0.1
  have hb := C0.2.1
  have hts := C0.2.2.2.1
  have hown := C0.2.2.2.2.1
  have hK := C0.2.2.2.2.2.2.2.2.1.1
  have hNW := C0.2.2.2.2.2.2.2.2.1.2.1
  have hSF := C0.2.2.2.2.2.2.2.2.1.2.2
  rw [f_X3_init] at hrun
  refine lv_aload_n hx hb dX3_init_0 rfl (lv_at hl 0 rfl) ?_
  refine W.objInit hx hb hown (hts _ u_X3_init_1) (hts _ u_X3_init_2) (hts _ u_X3_init_3) rfl (by rw [C0.2.2.2.2.2.2.1]; exact hl.1) rfl dX3_init_1 (Nat.le_of_ble_eq_true rfl) (Nat.le_of_ble_eq_true rfl) ?_
  refine W.eq (g2 := F0 m 4 ls []) rfl ?_
  refine lv_aload_n hx hb dX3_init_4 rfl (lv_at hl 0 rfl) ?_
  refine lv_bipush (v := 15) hx hb dX3_init_5 (by decide) ?_
  refine k_newa (atype := .int) (ty := .int) (a0 := (15, .inl (fun _ => 0))) C0 (hts _ u_X3_init_4) rfl 1 rfl (fun _ h9 => h9) hP hD hS (fun _ => rfl) (by decide) (by decide) (Nat.le_of_ble_eq_true rfl) (Nat.le_of_ble_eq_true rfl) (Nat.le_of_ble_eq_true rfl) dX3_init_7 (fun h_n7 H hP hD hS => ?_)
  have hP : va_P G.1 vwCl [(h_t, .inr (1, [g_t_rows, g_t_lengths, g_t_count])), (h_n7, .inl (k_cI G, 15, .inl (fun _ => 0)))] H := hP
  have hD : va_D A [(h_t, .inr (1, [g_t_rows, g_t_lengths, g_t_count])), (h_n7, .inl (k_cI G, 15, .inl (fun _ => 0)))] := hD
  refine W.widen (k := 1) (n := 15) (Nat.le_of_ble_eq_true rfl) (Nat.le_of_ble_eq_true rfl) ?_
  refine va_putF (D := G.1) (ci := 1) (v := .ref h_n7) (ty := (tyX3 0)) (C := RX3) (T := TX3) (N := 3) hx hb hts n_X3_init_X3 tyX3 tyX3_ok nmX3 hown hK hP hD hS 0 rfl rfl 0 (by decide) (hts _ u_X3_init_5) (fun _ h9 => h9) rfl C0.2.2.2.2.2.2.2.2.2 rfl (by decide +kernel) rfl rfl (Nat.le_of_ble_eq_true rfl) dX3_init_9 (fun H locs hP hD hS => ?_)
  have hP : va_P G.1 vwCl [(h_t, .inr (1, [.ref h_n7, g_t_lengths, g_t_count])), (h_n7, .inl (k_cI G, 15, .inl (fun _ => 0)))] H := hP
  have hD : va_D A [(h_t, .inr (1, [.ref h_n7, g_t_lengths, g_t_count])), (h_n7, .inl (k_cI G, 15, .inl (fun _ => 0)))] := hD
  refine lv_aload_n hx hb dX3_init_12 rfl (lv_at hl 0 rfl) ?_
  refine lv_bipush (v := 15) hx hb dX3_init_13 (by decide) ?_
  refine k_newa (atype := .int) (ty := .int) (a0 := (15, .inl (fun _ => 0))) C0 (hts _ u_X3_init_4) rfl 1 rfl (fun _ h9 => h9) hP hD hS (fun _ => rfl) (by decide) (by decide) (Nat.le_of_ble_eq_true rfl) (Nat.le_of_ble_eq_true rfl) (Nat.le_of_ble_eq_true rfl) dX3_init_15 (fun h_n15 H hP hD hS => ?_)
  have hP : va_P G.1 vwCl [(h_t, .inr (1, [.ref h_n7, g_t_lengths, g_t_count])), (h_n7, .inl (k_cI G, 15, .inl (fun _ => 0))), (h_n15, .inl (k_cI G, 15, .inl (fun _ => 0)))] H := hP
  have hD : va_D A [(h_t, .inr (1, [.ref h_n7, g_t_lengths, g_t_count])), (h_n7, .inl (k_cI G, 15, .inl (fun _ => 0))), (h_n15, .inl (k_cI G, 15, .inl (fun _ => 0)))] := hD
  refine W.widen (k := 2) (n := 30) (Nat.le_of_ble_eq_true rfl) (Nat.le_of_ble_eq_true rfl) ?_
  refine va_putF (D := G.1) (ci := 1) (v := .ref h_n15) (ty := (tyX3 1)) (C := RX3) (T := TX3) (N := 3) hx hb hts n_X3_init_X3 tyX3 tyX3_ok nmX3 hown hK hP hD hS 0 rfl rfl 1 (by decide) (hts _ u_X3_init_6) (fun _ h9 => h9) rfl C0.2.2.2.2.2.2.2.2.2 rfl (by decide +kernel) rfl rfl (Nat.le_of_ble_eq_true rfl) dX3_init_17 (fun H locs hP hD hS => ?_)
  have hP : va_P G.1 vwCl [(h_t, .inr (1, [.ref h_n7, .ref h_n15, g_t_count])), (h_n7, .inl (k_cI G, 15, .inl (fun _ => 0))), (h_n15, .inl (k_cI G, 15, .inl (fun _ => 0)))] H := hP
  have hD : va_D A [(h_t, .inr (1, [.ref h_n7, .ref h_n15, g_t_count])), (h_n7, .inl (k_cI G, 15, .inl (fun _ => 0))), (h_n15, .inl (k_cI G, 15, .inl (fun _ => 0)))] := hD
  obtain rfl := Option.some.inj hrun
  exact k_retv C0 hP hD hS (h_n7, h_n15) rfl dX3_init_20
theorem u_X3_keep_1 : (Cond.fieldLink RX3 9 "ClosePacking$Images" "rows" "[I") ∈ wsX3_keep := List.mem_of_getElem? (i := 1) (by decide +kernel)
theorem u_X3_keep_2 : (Cond.fieldLink RX3 18 "ClosePacking$Images" "count" "I") ∈ wsX3_keep := List.mem_of_getElem? (i := 2) (by decide +kernel)
theorem u_X3_keep_3 : (Cond.fieldLink RX3 15 "ClosePacking$Images" "lengths" "[I") ∈ wsX3_keep := List.mem_of_getElem? (i := 3) (by decide +kernel)
theorem u_X3_keep_11 : (Cond.initialized RX11) ∈ wsX3_keep := List.mem_of_getElem? (i := 11) (by decide +kernel)
theorem u_X3_keep_13 : (Cond.static yX11_set) ∈ wsX3_keep := List.mem_of_getElem? (i := 13) (by decide +kernel)
theorem n_X3_keep_X3 : ∀ w ∈ u_ws RX3 TX3 3, w ∈ wsX3_keep := by decide +kernel
theorem nw_X3_keep_10 : k_nest[10]? = some (.methodLinkNest RX3 28 yX11_set "ClosePacking") := rfl
abbrev rm_X3_keep : Room := { frames := 2, cells := 0, slots := 0, locals := 42 }
theorem e_X3_keep : yX3_keep.cls = RX3 ∧ yX3_keep.cls ≠ "java/lang/invoke/MethodHandle" ∧ yX3_keep.cls ≠ "java/lang/invoke/VarHandle" ∧ (parseMethodDescriptor yX3_keep.desc).map (fun d => d.parameters.length) = some 1 := by decide +kernel
set_option maxHeartbeats 4000000 in
set_option maxRecDepth 100000 in
theorem t_X3_keep_2 {l : Launch} {G : k_G} {p : Program} {e : Env} {s : State} {m : MethodId} {args : Array Value} {below : List Frame} {meth : Method} {c : Code} {A : Nat → Prop} {h_a1 h_a1_lengths h_a1_rows h_t h_t_lengths h_t_rows : Nat} {g_a1_count : Value} {out : Int32 × Int32 × (Nat → Int32) × (Nat → Int32)} (C0 : k_C G p s m args meth c A cX3_keep RX3 wsX3_keep 3 (some .int) "keep") : ∀ (n : Nat) (x2 : Int32) (v_t_count : Int32) (w_a1_lengths : Nat → Int32) (w_a1_rows : Nat → Int32) (w_t_lengths : Nat → Int32) (w_t_rows : Nat → Int32) (H : Heap) (locs : List Loc) (ls : Array Slot), va_P G.1 vwCl [(h_a1, .inr (6, [.ref h_a1_rows, .ref h_a1_lengths, g_a1_count])), (h_a1_lengths, .inl (k_cI G, 5, .inl w_a1_lengths)), (h_a1_rows, .inl (k_cI G, 5, .inl w_a1_rows)), (h_t, .inr (1, [.ref h_t_rows, .ref h_t_lengths, .int v_t_count])), (h_t_lengths, .inl (k_cI G, 15, .inl w_t_lengths)), (h_t_rows, .inl (k_cI G, 15, .inl w_t_rows))] H → va_D A [(h_a1, .inr (6, [.ref h_a1_rows, .ref h_a1_lengths, g_a1_count])), (h_a1_lengths, .inl (k_cI G, 5, .inl w_a1_lengths)), (h_a1_rows, .inl (k_cI G, 5, .inl w_a1_rows)), (h_t, .inr (1, [.ref h_t_rows, .ref h_t_lengths, .int v_t_count])), (h_t_lengths, .inl (k_cI G, 15, .inl w_t_lengths)), (h_t_rows, .inl (k_cI G, 15, .inl w_t_rows))] → va_S A s.heap H locs → lv_has ls 3 [(0, .ref h_t), (1, .ref h_a1), (2, .int x2)] → f_X3_keep_2 n x2 v_t_count w_a1_lengths w_a1_rows w_t_lengths w_t_rows = some out → W p l e rm_X3_keep s m args below meth c H locs 0 0 (MQ below (k_Qi G A out.1 (fun (_ : Unit) => [(h_a1, .inr (6, [.ref h_a1_rows, .ref h_a1_lengths, g_a1_count])), (h_a1_lengths, .inl (k_cI G, 5, .inl w_a1_lengths)), (h_a1_rows, .inl (k_cI G, 5, .inl w_a1_rows)), (h_t, .inr (1, [.ref h_t_rows, .ref h_t_lengths, .int out.2.1])), (h_t_lengths, .inl (k_cI G, 15, .inl out.2.2.1)), (h_t_rows, .inl (k_cI G, 15, .inl out.2.2.2))])) args s 0 0 A) (F0 m 2 ls []) := by
  have hx := C0.1
  have hb := C0.2.1
  have hts := C0.2.2.2.1
  have hown := C0.2.2.2.2.1
  have hK := C0.2.2.2.2.2.2.2.2.1.1
  have hNW := C0.2.2.2.2.2.2.2.2.1.2.1
  have hSF := C0.2.2.2.2.2.2.2.2.1.2.2
  intro n
  induction n with
  | zero =>
    intro x2 v_t_count w_a1_lengths w_a1_rows w_t_lengths w_t_rows H locs ls hP hD hS hl hrun
    rw [f_X3_keep_2] at hrun
    cases hrun
  | succ n ih =>
    intro x2 v_t_count w_a1_lengths w_a1_rows w_t_lengths w_t_rows H locs ls hP hD hS hl hrun
    rw [f_X3_keep_2] at hrun
    refine lv_iload_n hx hb dX3_keep_2 rfl (lv_at hl 2 rfl) ?_
    refine lv_iconst (v := 5) hx hb dX3_keep_3 (by decide) ?_
    refine lv_icmp_ge (tgt := 53) hx hb dX3_keep_4 (by decide) (fun q1 => ?_) (fun q1 => ?_)
    · replace hrun := if_t q1 hrun
      refine lv_aload_n hx hb dX3_keep_53 rfl (lv_at hl 0 rfl) ?_
      refine lv_dup hx hb dX3_keep_54 rfl ?_
      refine va_get (D := G.1) (ci := 1) (v := .int v_t_count) (C := RX3) (T := TX3) (N := 3) hx hb hts n_X3_keep_X3 hown hK hP 3 rfl rfl 2 (by decide) (hts _ u_X3_keep_2) (fun _ h9 => h9) rfl dX3_keep_55 ?_
      refine lv_iconst (v := 1) hx hb dX3_keep_58 (by decide) ?_
      refine lv_iadd hx hb dX3_keep_59 ?_
      obtain ⟨n2, en, hrun⟩ := lt_inv hrun
      refine k_nmi en ?_
      clear en
      refine va_put (D := G.1) (ci := 1) (v := .int n2) (ty := .int) (C := RX3) (T := TX3) (N := 3) hx hb hts n_X3_keep_X3 tyX3 tyX3_ok nmX3 hown hK hP hD hS 3 rfl rfl 2 (by decide) (hts _ u_X3_keep_2) (fun _ h9 => h9) rfl (by decide +kernel) rfl rfl (Nat.le_of_ble_eq_true rfl) dX3_keep_60 (fun H locs hP hD hS => ?_)
      have hP : va_P G.1 vwCl [(h_a1, .inr (6, [.ref h_a1_rows, .ref h_a1_lengths, g_a1_count])), (h_a1_lengths, .inl (k_cI G, 5, .inl w_a1_lengths)), (h_a1_rows, .inl (k_cI G, 5, .inl w_a1_rows)), (h_t, .inr (1, [.ref h_t_rows, .ref h_t_lengths, .int n2])), (h_t_lengths, .inl (k_cI G, 15, .inl w_t_lengths)), (h_t_rows, .inl (k_cI G, 15, .inl w_t_rows))] H := hP
      have hD : va_D A [(h_a1, .inr (6, [.ref h_a1_rows, .ref h_a1_lengths, g_a1_count])), (h_a1_lengths, .inl (k_cI G, 5, .inl w_a1_lengths)), (h_a1_rows, .inl (k_cI G, 5, .inl w_a1_rows)), (h_t, .inr (1, [.ref h_t_rows, .ref h_t_lengths, .int n2])), (h_t_lengths, .inl (k_cI G, 15, .inl w_t_lengths)), (h_t_rows, .inl (k_cI G, 15, .inl w_t_rows))] := hD
      refine lv_aload_n hx hb dX3_keep_63 rfl (lv_at hl 0 rfl) ?_
      refine va_get (D := G.1) (ci := 1) (v := .int n2) (C := RX3) (T := TX3) (N := 3) hx hb hts n_X3_keep_X3 hown hK hP 3 rfl rfl 2 (by decide) (hts _ u_X3_keep_2) (fun _ h9 => h9) rfl dX3_keep_64 ?_
      refine lv_iconst (v := 1) hx hb dX3_keep_67 (by decide) ?_
      refine lv_isub hx hb dX3_keep_68 ?_
      obtain rfl := Option.some.inj hrun
      exact k_reti C0 hP hD hS () rfl rfl dX3_keep_69
    · replace hrun := if_f q1 hrun
      refine lv_aload_n hx hb dX3_keep_7 rfl (lv_at hl 0 rfl) ?_
      refine va_get (D := G.1) (ci := 1) (v := .ref h_t_rows) (C := RX3) (T := TX3) (N := 3) hx hb hts n_X3_keep_X3 hown hK hP 3 rfl rfl 0 (by decide) (hts _ u_X3_keep_1) (fun _ h9 => h9) rfl dX3_keep_8 ?_
      refine lv_aload_n hx hb dX3_keep_11 rfl (lv_at hl 0 rfl) ?_
      refine va_get (D := G.1) (ci := 1) (v := .int v_t_count) (C := RX3) (T := TX3) (N := 3) hx hb hts n_X3_keep_X3 hown hK hP 3 rfl rfl 2 (by decide) (hts _ u_X3_keep_2) (fun _ h9 => h9) rfl dX3_keep_12 ?_
      refine lv_iconst (v := 5) hx hb dX3_keep_15 (by decide) ?_
      refine lv_imul hx hb dX3_keep_16 ?_
      refine lv_iload_n hx hb dX3_keep_17 rfl (lv_at hl 2 rfl) ?_
      refine lv_iadd hx hb dX3_keep_18 ?_
      refine lv_aload_n hx hb dX3_keep_19 rfl (lv_at hl 1 rfl) ?_
      refine lv_iload_n hx hb dX3_keep_20 rfl (lv_at hl 2 rfl) ?_
      obtain ⟨t3, et3, hrun⟩ := bd_inv hrun
      refine k_calli (w2 := fun (_ : Unit) => [(h_a1, .inr (6, [.ref h_a1_rows, .ref h_a1_lengths, g_a1_count])), (h_a1_lengths, .inl (k_cI G, 5, .inl w_a1_lengths)), (h_a1_rows, .inl (k_cI G, 5, .inl w_a1_rows)), (h_t, .inr (1, [.ref h_t_rows, .ref h_t_lengths, .int v_t_count])), (h_t_lengths, .inl (k_cI G, 15, .inl w_t_lengths)), (h_t_rows, .inl (k_cI G, 15, .inl w_t_rows))]) C0 (k_runV (rest := [.int ((v_t_count * (5 : Int32)) + x2), .ref h_t_rows]) C0 (c_X9_row et3) (cwV 1 hts gX3_keep_X9_row rfl rfl rfl e_X9_row ⟨Nat.le_of_ble_eq_true rfl, Nat.le_of_ble_eq_true rfl⟩) hP hD hS [0, 2] rfl (by decide) 0 (qc := (RX9, TX9, 3)) rfl rfl rfl rfl hl.1 rfl (Nat.le_of_ble_eq_true rfl) dX3_keep_21 ⟨Nat.le_of_ble_eq_true rfl, Nat.le_of_ble_eq_true rfl⟩) hP hD hS [0, 2] [1, 3, 4, 5] rfl rfl (by decide) (by decide) [4, 0, 5, 1, 2, 3] (by decide) (fun _ => rfl) (fun _ H locs hP hD hS => ?_)
      have hP : va_P G.1 vwCl [(h_a1, .inr (6, [.ref h_a1_rows, .ref h_a1_lengths, g_a1_count])), (h_a1_lengths, .inl (k_cI G, 5, .inl w_a1_lengths)), (h_a1_rows, .inl (k_cI G, 5, .inl w_a1_rows)), (h_t, .inr (1, [.ref h_t_rows, .ref h_t_lengths, .int v_t_count])), (h_t_lengths, .inl (k_cI G, 15, .inl w_t_lengths)), (h_t_rows, .inl (k_cI G, 15, .inl w_t_rows))] H := hP
      have hD : va_D A [(h_a1, .inr (6, [.ref h_a1_rows, .ref h_a1_lengths, g_a1_count])), (h_a1_lengths, .inl (k_cI G, 5, .inl w_a1_lengths)), (h_a1_rows, .inl (k_cI G, 5, .inl w_a1_rows)), (h_t, .inr (1, [.ref h_t_rows, .ref h_t_lengths, .int v_t_count])), (h_t_lengths, .inl (k_cI G, 15, .inl w_t_lengths)), (h_t_rows, .inl (k_cI G, 15, .inl w_t_rows))] := hD
      obtain ⟨t4, et4, hrun⟩ := bd_inv hrun
      refine k_callv (w2 := fun (_ : Unit) => [(h_a1, .inr (6, [.ref h_a1_rows, .ref h_a1_lengths, g_a1_count])), (h_a1_lengths, .inl (k_cI G, 5, .inl w_a1_lengths)), (h_a1_rows, .inl (k_cI G, 5, .inl w_a1_rows)), (h_t, .inr (1, [.ref h_t_rows, .ref h_t_lengths, .int v_t_count])), (h_t_lengths, .inl (k_cI G, 15, .inl w_t_lengths)), (h_t_rows, .inl (k_cI G, 15, .inl t4))]) C0 (k_runSN (rest := []) C0 (c_X11_set et4) (va_cnB 3 hts gX3_keep_X11_set_n28 rfl rfl rfl (k_nw hNW 10 nw_X3_keep_10) (hts _ u_X3_keep_11) e_X11_set.2 ⟨Nat.le_of_ble_eq_true rfl, Nat.le_of_ble_eq_true rfl⟩) (hts _ u_X3_keep_13) hP hD hS [5] rfl (by decide) rfl hl.1 rfl (Nat.le_of_ble_eq_true rfl) dX3_keep_24 ⟨Nat.le_of_ble_eq_true rfl, Nat.le_of_ble_eq_true rfl⟩) hP hD hS [5] [0, 1, 2, 3, 4] rfl rfl (by decide) (by decide) [0, 1, 2, 3, 4, 5] (by decide) (fun _ => rfl) (fun _ H locs hP hD hS => ?_)
      have hP : va_P G.1 vwCl [(h_a1, .inr (6, [.ref h_a1_rows, .ref h_a1_lengths, g_a1_count])), (h_a1_lengths, .inl (k_cI G, 5, .inl w_a1_lengths)), (h_a1_rows, .inl (k_cI G, 5, .inl w_a1_rows)), (h_t, .inr (1, [.ref h_t_rows, .ref h_t_lengths, .int v_t_count])), (h_t_lengths, .inl (k_cI G, 15, .inl w_t_lengths)), (h_t_rows, .inl (k_cI G, 15, .inl t4))] H := hP
      have hD : va_D A [(h_a1, .inr (6, [.ref h_a1_rows, .ref h_a1_lengths, g_a1_count])), (h_a1_lengths, .inl (k_cI G, 5, .inl w_a1_lengths)), (h_a1_rows, .inl (k_cI G, 5, .inl w_a1_rows)), (h_t, .inr (1, [.ref h_t_rows, .ref h_t_lengths, .int v_t_count])), (h_t_lengths, .inl (k_cI G, 15, .inl w_t_lengths)), (h_t_rows, .inl (k_cI G, 15, .inl t4))] := hD
      refine lv_aload_n hx hb dX3_keep_27 rfl (lv_at hl 0 rfl) ?_
      refine va_get (D := G.1) (ci := 1) (v := .ref h_t_lengths) (C := RX3) (T := TX3) (N := 3) hx hb hts n_X3_keep_X3 hown hK hP 3 rfl rfl 1 (by decide) (hts _ u_X3_keep_3) (fun _ h9 => h9) rfl dX3_keep_28 ?_
      refine lv_aload_n hx hb dX3_keep_31 rfl (lv_at hl 0 rfl) ?_
      refine va_get (D := G.1) (ci := 1) (v := .int v_t_count) (C := RX3) (T := TX3) (N := 3) hx hb hts n_X3_keep_X3 hown hK hP 3 rfl rfl 2 (by decide) (hts _ u_X3_keep_2) (fun _ h9 => h9) rfl dX3_keep_32 ?_
      refine lv_iconst (v := 5) hx hb dX3_keep_35 (by decide) ?_
      refine lv_imul hx hb dX3_keep_36 ?_
      refine lv_iload_n hx hb dX3_keep_37 rfl (lv_at hl 2 rfl) ?_
      refine lv_iadd hx hb dX3_keep_38 ?_
      refine lv_aload_n hx hb dX3_keep_39 rfl (lv_at hl 1 rfl) ?_
      refine lv_iload_n hx hb dX3_keep_40 rfl (lv_at hl 2 rfl) ?_
      obtain ⟨t5, et5, hrun⟩ := bd_inv hrun
      refine k_calli (w2 := fun (_ : Unit) => [(h_a1, .inr (6, [.ref h_a1_rows, .ref h_a1_lengths, g_a1_count])), (h_a1_lengths, .inl (k_cI G, 5, .inl w_a1_lengths)), (h_a1_rows, .inl (k_cI G, 5, .inl w_a1_rows)), (h_t, .inr (1, [.ref h_t_rows, .ref h_t_lengths, .int v_t_count])), (h_t_lengths, .inl (k_cI G, 15, .inl w_t_lengths)), (h_t_rows, .inl (k_cI G, 15, .inl t4))]) C0 (k_runV (rest := [.int ((v_t_count * (5 : Int32)) + x2), .ref h_t_lengths]) C0 (c_X9_steps et5) (cwV 1 hts gX3_keep_X9_steps rfl rfl rfl e_X9_steps ⟨Nat.le_of_ble_eq_true rfl, Nat.le_of_ble_eq_true rfl⟩) hP hD hS [0, 1] rfl (by decide) 0 (qc := (RX9, TX9, 3)) rfl rfl rfl rfl hl.1 rfl (Nat.le_of_ble_eq_true rfl) dX3_keep_41 ⟨Nat.le_of_ble_eq_true rfl, Nat.le_of_ble_eq_true rfl⟩) hP hD hS [0, 1] [2, 3, 4, 5] rfl rfl (by decide) (by decide) [4, 5, 0, 1, 2, 3] (by decide) (fun _ => rfl) (fun _ H locs hP hD hS => ?_)
      have hP : va_P G.1 vwCl [(h_a1, .inr (6, [.ref h_a1_rows, .ref h_a1_lengths, g_a1_count])), (h_a1_lengths, .inl (k_cI G, 5, .inl w_a1_lengths)), (h_a1_rows, .inl (k_cI G, 5, .inl w_a1_rows)), (h_t, .inr (1, [.ref h_t_rows, .ref h_t_lengths, .int v_t_count])), (h_t_lengths, .inl (k_cI G, 15, .inl w_t_lengths)), (h_t_rows, .inl (k_cI G, 15, .inl t4))] H := hP
      have hD : va_D A [(h_a1, .inr (6, [.ref h_a1_rows, .ref h_a1_lengths, g_a1_count])), (h_a1_lengths, .inl (k_cI G, 5, .inl w_a1_lengths)), (h_a1_rows, .inl (k_cI G, 5, .inl w_a1_rows)), (h_t, .inr (1, [.ref h_t_rows, .ref h_t_lengths, .int v_t_count])), (h_t_lengths, .inl (k_cI G, 15, .inl w_t_lengths)), (h_t_rows, .inl (k_cI G, 15, .inl t4))] := hD
      obtain ⟨t6, et6, hrun⟩ := bd_inv hrun
      refine k_callv (w2 := fun (_ : Unit) => [(h_a1, .inr (6, [.ref h_a1_rows, .ref h_a1_lengths, g_a1_count])), (h_a1_lengths, .inl (k_cI G, 5, .inl w_a1_lengths)), (h_a1_rows, .inl (k_cI G, 5, .inl w_a1_rows)), (h_t, .inr (1, [.ref h_t_rows, .ref h_t_lengths, .int v_t_count])), (h_t_lengths, .inl (k_cI G, 15, .inl t6)), (h_t_rows, .inl (k_cI G, 15, .inl t4))]) C0 (k_runSN (rest := []) C0 (c_X11_set et6) (va_cnB 3 hts gX3_keep_X11_set_n28 rfl rfl rfl (k_nw hNW 10 nw_X3_keep_10) (hts _ u_X3_keep_11) e_X11_set.2 ⟨Nat.le_of_ble_eq_true rfl, Nat.le_of_ble_eq_true rfl⟩) (hts _ u_X3_keep_13) hP hD hS [4] rfl (by decide) rfl hl.1 rfl (Nat.le_of_ble_eq_true rfl) dX3_keep_44 ⟨Nat.le_of_ble_eq_true rfl, Nat.le_of_ble_eq_true rfl⟩) hP hD hS [4] [0, 1, 2, 3, 5] rfl rfl (by decide) (by decide) [0, 1, 2, 3, 5, 4] (by decide) (fun _ => rfl) (fun _ H locs hP hD hS => ?_)
      have hP : va_P G.1 vwCl [(h_a1, .inr (6, [.ref h_a1_rows, .ref h_a1_lengths, g_a1_count])), (h_a1_lengths, .inl (k_cI G, 5, .inl w_a1_lengths)), (h_a1_rows, .inl (k_cI G, 5, .inl w_a1_rows)), (h_t, .inr (1, [.ref h_t_rows, .ref h_t_lengths, .int v_t_count])), (h_t_lengths, .inl (k_cI G, 15, .inl t6)), (h_t_rows, .inl (k_cI G, 15, .inl t4))] H := hP
      have hD : va_D A [(h_a1, .inr (6, [.ref h_a1_rows, .ref h_a1_lengths, g_a1_count])), (h_a1_lengths, .inl (k_cI G, 5, .inl w_a1_lengths)), (h_a1_rows, .inl (k_cI G, 5, .inl w_a1_rows)), (h_t, .inr (1, [.ref h_t_rows, .ref h_t_lengths, .int v_t_count])), (h_t_lengths, .inl (k_cI G, 15, .inl t6)), (h_t_rows, .inl (k_cI G, 15, .inl t4))] := hD
      refine lv_iinc (v := x2 + 1) (lv' := [(2, .int (x2 + 1)), (0, .ref h_t), (1, .ref h_a1)]) hx hb dX3_keep_47 hl (k := 2) rfl rfl (by decide) rfl (fun ls hl => ?_)
      refine lv_goto (tgt := 2) hx hb dX3_keep_50 (by decide) ?_
      exact ih (x2 + 1) v_t_count w_a1_lengths w_a1_rows t6 t4 _ _ _ hP hD hS (lv_sub hl [1, 2, 0] rfl) hrun
set_option maxHeartbeats 4000000 in
set_option maxRecDepth 100000 in
theorem c_X3_keep {l : Launch} {G : k_G} {h_a1 h_a1_lengths h_a1_rows h_t h_t_lengths h_t_rows : Nat} {g_a1_count : Value} {sz : Nat} {v_t_count : Int32} {w_a1_lengths : Nat → Int32} {w_a1_rows : Nat → Int32} {w_t_lengths : Nat → Int32} {w_t_rows : Nat → Int32} {out : Int32 × Int32 × (Nat → Int32) × (Nat → Int32)} (hrun : f_X3_keep v_t_count w_a1_lengths w_a1_rows w_t_lengths w_t_rows = some out) : k_Ci l G yX3_keep wsX3_keep rm_X3_keep [.ref h_t, .ref h_a1] [(h_a1, .inr (6, [.ref h_a1_rows, .ref h_a1_lengths, g_a1_count])), (h_a1_lengths, .inl (k_cI G, 5, .inl w_a1_lengths)), (h_a1_rows, .inl (k_cI G, 5, .inl w_a1_rows)), (h_t, .inr (1, [.ref h_t_rows, .ref h_t_lengths, .int v_t_count])), (h_t_lengths, .inl (k_cI G, 15, .inl w_t_lengths)), (h_t_rows, .inl (k_cI G, 15, .inl w_t_rows))] sz out.1 (fun (_ : Unit) => [(h_a1, .inr (6, [.ref h_a1_rows, .ref h_a1_lengths, g_a1_count])), (h_a1_lengths, .inl (k_cI G, 5, .inl w_a1_lengths)), (h_a1_rows, .inl (k_cI G, 5, .inl w_a1_rows)), (h_t, .inr (1, [.ref h_t_rows, .ref h_t_lengths, .int out.2.1])), (h_t_lengths, .inl (k_cI G, 15, .inl out.2.2.1)), (h_t_rows, .inl (k_cI G, 15, .inl out.2.2.2))]) 0 0 := by
  refine k_of (cc := cX3_keep) (nL := 3) (ret := some .int) (own := RX3) (nm := "keep") (by decide) rfl rfl rfl rfl ?_
  intro p e s m args below meth c ls hsz C0 hP hD hS hl
  have hl : lv_has ls 3 [(0, .ref h_t), (1, .ref h_a1)] := hl
  generalize hH : s.heap = H at hP
  have hS : va_S (va_A [(h_a1, .inr (6, [.ref h_a1_rows, .ref h_a1_lengths, g_a1_count])), (h_a1_lengths, .inl (k_cI G, 5, .inl w_a1_lengths)), (h_a1_rows, .inl (k_cI G, 5, .inl w_a1_rows)), (h_t, .inr (1, [.ref h_t_rows, .ref h_t_lengths, .int v_t_count])), (h_t_lengths, .inl (k_cI G, 15, .inl w_t_lengths)), (h_t_rows, .inl (k_cI G, 15, .inl w_t_rows))] sz) s.heap H [] := by rw [← hH]; exact hS
  clear hH
  generalize va_A [(h_a1, .inr (6, [.ref h_a1_rows, .ref h_a1_lengths, g_a1_count])), (h_a1_lengths, .inl (k_cI G, 5, .inl w_a1_lengths)), (h_a1_rows, .inl (k_cI G, 5, .inl w_a1_rows)), (h_t, .inr (1, [.ref h_t_rows, .ref h_t_lengths, .int v_t_count])), (h_t_lengths, .inl (k_cI G, 15, .inl w_t_lengths)), (h_t_rows, .inl (k_cI G, 15, .inl w_t_rows))] sz = A at C0 hD hS ⊢
  have hx := C0.1
  have hb := C0.2.1
  have hts := C0.2.2.2.1
  have hown := C0.2.2.2.2.1
  have hK := C0.2.2.2.2.2.2.2.2.1.1
  have hNW := C0.2.2.2.2.2.2.2.2.1.2.1
  have hSF := C0.2.2.2.2.2.2.2.2.1.2.2
  rw [f_X3_keep] at hrun
  refine lv_iconst (v := 0) hx hb dX3_keep_0 (by decide) ?_
  refine lv_istore_n (lv' := [(2, .int (0 : Int32)), (0, .ref h_t), (1, .ref h_a1)]) hx hb dX3_keep_1 rfl hl (by decide) rfl (fun ls hl => ?_)
  exact t_X3_keep_2 C0 kFU (0 : Int32) v_t_count w_a1_lengths w_a1_rows w_t_lengths w_t_rows _ _ _ hP hD hS (lv_sub hl [1, 2, 0] rfl) hrun
theorem u_X3_bring_1 : (Cond.fieldLink RX3 9 "ClosePacking$Images" "rows" "[I") ∈ wsX3_bring := List.mem_of_getElem? (i := 1) (by decide +kernel)
theorem u_X3_bring_2 : (Cond.fieldLink RX3 15 "ClosePacking$Images" "lengths" "[I") ∈ wsX3_bring := List.mem_of_getElem? (i := 2) (by decide +kernel)
theorem u_X3_bring_3 : (Cond.static yX11_at) ∈ wsX3_bring := List.mem_of_getElem? (i := 3) (by decide +kernel)
theorem u_X3_bring_4 : (Cond.initialized RX11) ∈ wsX3_bring := List.mem_of_getElem? (i := 4) (by decide +kernel)
theorem n_X3_bring_X3 : ∀ w ∈ u_ws RX3 TX3 3, w ∈ wsX3_bring := by decide +kernel
theorem nw_X3_bring_11 : k_nest[11]? = some (.methodLinkNest RX3 35 yX11_at "ClosePacking") := rfl
abbrev rm_X3_bring : Room := { frames := 2, cells := 0, slots := 0, locals := 45 }
theorem e_X3_bring : yX3_bring.cls = RX3 ∧ yX3_bring.cls ≠ "java/lang/invoke/MethodHandle" ∧ yX3_bring.cls ≠ "java/lang/invoke/VarHandle" ∧ (parseMethodDescriptor yX3_bring.desc).map (fun d => d.parameters.length) = some 2 := by decide +kernel
set_option maxHeartbeats 4000000 in
set_option maxRecDepth 100000 in
theorem t_X3_bring_2 {l : Launch} {G : k_G} {p : Program} {e : Env} {s : State} {m : MethodId} {args : Array Value} {below : List Frame} {meth : Method} {c : Code} {A : Nat → Prop} {h_a2 h_a2_lengths h_a2_rows h_t h_t_lengths h_t_rows : Nat} {g_a2_count g_t_count : Value} {out : (Nat → Int32) × (Nat → Int32)} (C0 : k_C G p s m args meth c A cX3_bring RX3 wsX3_bring 4 none "bring") : ∀ (n : Nat) (x1 : Int32) (x3 : Int32) (w_a2_lengths : Nat → Int32) (w_a2_rows : Nat → Int32) (w_t_lengths : Nat → Int32) (w_t_rows : Nat → Int32) (H : Heap) (locs : List Loc) (ls : Array Slot), va_P G.1 vwCl [(h_a2, .inr (6, [.ref h_a2_rows, .ref h_a2_lengths, g_a2_count])), (h_a2_lengths, .inl (k_cI G, 5, .inl w_a2_lengths)), (h_a2_rows, .inl (k_cI G, 5, .inl w_a2_rows)), (h_t, .inr (1, [.ref h_t_rows, .ref h_t_lengths, g_t_count])), (h_t_lengths, .inl (k_cI G, 15, .inl w_t_lengths)), (h_t_rows, .inl (k_cI G, 15, .inl w_t_rows))] H → va_D A [(h_a2, .inr (6, [.ref h_a2_rows, .ref h_a2_lengths, g_a2_count])), (h_a2_lengths, .inl (k_cI G, 5, .inl w_a2_lengths)), (h_a2_rows, .inl (k_cI G, 5, .inl w_a2_rows)), (h_t, .inr (1, [.ref h_t_rows, .ref h_t_lengths, g_t_count])), (h_t_lengths, .inl (k_cI G, 15, .inl w_t_lengths)), (h_t_rows, .inl (k_cI G, 15, .inl w_t_rows))] → va_S A s.heap H locs → lv_has ls 4 [(0, .ref h_t), (1, .int x1), (2, .ref h_a2), (3, .int x3)] → f_X3_bring_2 n x1 x3 w_a2_lengths w_a2_rows w_t_lengths w_t_rows = some out → W p l e rm_X3_bring s m args below meth c H locs 0 0 (MQ below (k_Qv G A (fun (_ : Unit) => [(h_a2, .inr (6, [.ref h_a2_rows, .ref h_a2_lengths, g_a2_count])), (h_a2_lengths, .inl (k_cI G, 5, .inl out.1)), (h_a2_rows, .inl (k_cI G, 5, .inl out.2)), (h_t, .inr (1, [.ref h_t_rows, .ref h_t_lengths, g_t_count])), (h_t_lengths, .inl (k_cI G, 15, .inl w_t_lengths)), (h_t_rows, .inl (k_cI G, 15, .inl w_t_rows))])) args s 0 0 A) (F0 m 2 ls []) := by
  have hx := C0.1
  have hb := C0.2.1
  have hts := C0.2.2.2.1
  have hown := C0.2.2.2.2.1
  have hK := C0.2.2.2.2.2.2.2.2.1.1
  have hNW := C0.2.2.2.2.2.2.2.2.1.2.1
  have hSF := C0.2.2.2.2.2.2.2.2.1.2.2
  intro n
  induction n with
  | zero =>
    intro x1 x3 w_a2_lengths w_a2_rows w_t_lengths w_t_rows H locs ls hP hD hS hl hrun
    rw [f_X3_bring_2] at hrun
    cases hrun
  | succ n ih =>
    intro x1 x3 w_a2_lengths w_a2_rows w_t_lengths w_t_rows H locs ls hP hD hS hl hrun
    rw [f_X3_bring_2] at hrun
    refine lv_iload_n hx hb dX3_bring_2 rfl (lv_at hl 3 rfl) ?_
    refine lv_iconst (v := 5) hx hb dX3_bring_3 (by decide) ?_
    refine lv_icmp_ge (tgt := 42) hx hb dX3_bring_4 (by decide) (fun q1 => ?_) (fun q1 => ?_)
    · replace hrun := if_t q1 hrun
      obtain rfl := Option.some.inj hrun
      exact k_retv C0 hP hD hS () rfl dX3_bring_42
    · replace hrun := if_f q1 hrun
      refine lv_aload_n hx hb dX3_bring_7 rfl (lv_at hl 2 rfl) ?_
      refine lv_iload_n hx hb dX3_bring_8 rfl (lv_at hl 3 rfl) ?_
      refine lv_aload_n hx hb dX3_bring_9 rfl (lv_at hl 0 rfl) ?_
      refine va_get (D := G.1) (ci := 1) (v := .ref h_t_rows) (C := RX3) (T := TX3) (N := 3) hx hb hts n_X3_bring_X3 hown hK hP 3 rfl rfl 0 (by decide) (hts _ u_X3_bring_1) (fun _ h9 => h9) rfl dX3_bring_10 ?_
      refine lv_iload_n hx hb dX3_bring_13 rfl (lv_at hl 1 rfl) ?_
      refine lv_iconst (v := 5) hx hb dX3_bring_14 (by decide) ?_
      refine lv_imul hx hb dX3_bring_15 ?_
      refine lv_iload_n hx hb dX3_bring_16 rfl (lv_at hl 3 rfl) ?_
      refine lv_iadd hx hb dX3_bring_17 ?_
      obtain ⟨t2, et2, hrun⟩ := bd_inv hrun
      refine k_calli (w2 := fun (_ : Unit) => [(h_a2, .inr (6, [.ref h_a2_rows, .ref h_a2_lengths, g_a2_count])), (h_a2_lengths, .inl (k_cI G, 5, .inl w_a2_lengths)), (h_a2_rows, .inl (k_cI G, 5, .inl w_a2_rows)), (h_t, .inr (1, [.ref h_t_rows, .ref h_t_lengths, g_t_count])), (h_t_lengths, .inl (k_cI G, 15, .inl w_t_lengths)), (h_t_rows, .inl (k_cI G, 15, .inl w_t_rows))]) C0 (k_runSN (rest := [.int x3, .ref h_a2]) C0 (c_X11_at et2) (va_cnB 2 hts gX3_bring_X11_at_n35 rfl rfl rfl (k_nw hNW 11 nw_X3_bring_11) (hts _ u_X3_bring_4) e_X11_at.2 ⟨Nat.le_of_ble_eq_true rfl, Nat.le_of_ble_eq_true rfl⟩) (hts _ u_X3_bring_3) hP hD hS [5] rfl (by decide) rfl hl.1 rfl (Nat.le_of_ble_eq_true rfl) dX3_bring_18 ⟨Nat.le_of_ble_eq_true rfl, Nat.le_of_ble_eq_true rfl⟩) hP hD hS [5] [0, 1, 2, 3, 4] rfl rfl (by decide) (by decide) [0, 1, 2, 3, 4, 5] (by decide) (fun _ => rfl) (fun _ H locs hP hD hS => ?_)
      have hP : va_P G.1 vwCl [(h_a2, .inr (6, [.ref h_a2_rows, .ref h_a2_lengths, g_a2_count])), (h_a2_lengths, .inl (k_cI G, 5, .inl w_a2_lengths)), (h_a2_rows, .inl (k_cI G, 5, .inl w_a2_rows)), (h_t, .inr (1, [.ref h_t_rows, .ref h_t_lengths, g_t_count])), (h_t_lengths, .inl (k_cI G, 15, .inl w_t_lengths)), (h_t_rows, .inl (k_cI G, 15, .inl w_t_rows))] H := hP
      have hD : va_D A [(h_a2, .inr (6, [.ref h_a2_rows, .ref h_a2_lengths, g_a2_count])), (h_a2_lengths, .inl (k_cI G, 5, .inl w_a2_lengths)), (h_a2_rows, .inl (k_cI G, 5, .inl w_a2_rows)), (h_t, .inr (1, [.ref h_t_rows, .ref h_t_lengths, g_t_count])), (h_t_lengths, .inl (k_cI G, 15, .inl w_t_lengths)), (h_t_rows, .inl (k_cI G, 15, .inl w_t_rows))] := hD
      refine lv_aload_n hx hb dX3_bring_21 rfl (lv_at hl 0 rfl) ?_
      refine va_get (D := G.1) (ci := 1) (v := .ref h_t_lengths) (C := RX3) (T := TX3) (N := 3) hx hb hts n_X3_bring_X3 hown hK hP 3 rfl rfl 1 (by decide) (hts _ u_X3_bring_2) (fun _ h9 => h9) rfl dX3_bring_22 ?_
      refine lv_iload_n hx hb dX3_bring_25 rfl (lv_at hl 1 rfl) ?_
      refine lv_iconst (v := 5) hx hb dX3_bring_26 (by decide) ?_
      refine lv_imul hx hb dX3_bring_27 ?_
      refine lv_iload_n hx hb dX3_bring_28 rfl (lv_at hl 3 rfl) ?_
      refine lv_iadd hx hb dX3_bring_29 ?_
      obtain ⟨t3, et3, hrun⟩ := bd_inv hrun
      refine k_calli (w2 := fun (_ : Unit) => [(h_a2, .inr (6, [.ref h_a2_rows, .ref h_a2_lengths, g_a2_count])), (h_a2_lengths, .inl (k_cI G, 5, .inl w_a2_lengths)), (h_a2_rows, .inl (k_cI G, 5, .inl w_a2_rows)), (h_t, .inr (1, [.ref h_t_rows, .ref h_t_lengths, g_t_count])), (h_t_lengths, .inl (k_cI G, 15, .inl w_t_lengths)), (h_t_rows, .inl (k_cI G, 15, .inl w_t_rows))]) C0 (k_runSN (rest := [.int t2, .int x3, .ref h_a2]) C0 (c_X11_at et3) (va_cnB 2 hts gX3_bring_X11_at_n35 rfl rfl rfl (k_nw hNW 11 nw_X3_bring_11) (hts _ u_X3_bring_4) e_X11_at.2 ⟨Nat.le_of_ble_eq_true rfl, Nat.le_of_ble_eq_true rfl⟩) (hts _ u_X3_bring_3) hP hD hS [4] rfl (by decide) rfl hl.1 rfl (Nat.le_of_ble_eq_true rfl) dX3_bring_30 ⟨Nat.le_of_ble_eq_true rfl, Nat.le_of_ble_eq_true rfl⟩) hP hD hS [4] [0, 1, 2, 3, 5] rfl rfl (by decide) (by decide) [0, 1, 2, 3, 5, 4] (by decide) (fun _ => rfl) (fun _ H locs hP hD hS => ?_)
      have hP : va_P G.1 vwCl [(h_a2, .inr (6, [.ref h_a2_rows, .ref h_a2_lengths, g_a2_count])), (h_a2_lengths, .inl (k_cI G, 5, .inl w_a2_lengths)), (h_a2_rows, .inl (k_cI G, 5, .inl w_a2_rows)), (h_t, .inr (1, [.ref h_t_rows, .ref h_t_lengths, g_t_count])), (h_t_lengths, .inl (k_cI G, 15, .inl w_t_lengths)), (h_t_rows, .inl (k_cI G, 15, .inl w_t_rows))] H := hP
      have hD : va_D A [(h_a2, .inr (6, [.ref h_a2_rows, .ref h_a2_lengths, g_a2_count])), (h_a2_lengths, .inl (k_cI G, 5, .inl w_a2_lengths)), (h_a2_rows, .inl (k_cI G, 5, .inl w_a2_rows)), (h_t, .inr (1, [.ref h_t_rows, .ref h_t_lengths, g_t_count])), (h_t_lengths, .inl (k_cI G, 15, .inl w_t_lengths)), (h_t_rows, .inl (k_cI G, 15, .inl w_t_rows))] := hD
      obtain ⟨t4, et4, hrun⟩ := bd_inv hrun
      refine k_callv (w2 := fun (_ : Unit) => [(h_a2, .inr (6, [.ref h_a2_rows, .ref h_a2_lengths, g_a2_count])), (h_a2_lengths, .inl (k_cI G, 5, .inl t4.1)), (h_a2_rows, .inl (k_cI G, 5, .inl t4.2)), (h_t, .inr (1, [.ref h_t_rows, .ref h_t_lengths, g_t_count])), (h_t_lengths, .inl (k_cI G, 15, .inl w_t_lengths)), (h_t_rows, .inl (k_cI G, 15, .inl w_t_rows))]) C0 (k_runV (rest := []) C0 (c_X9_put et4) (cwV 3 hts gX3_bring_X9_put rfl rfl rfl e_X9_put ⟨Nat.le_of_ble_eq_true rfl, Nat.le_of_ble_eq_true rfl⟩) hP hD hS [0, 1, 2] rfl (by decide) 0 (qc := (RX9, TX9, 3)) rfl rfl rfl rfl hl.1 rfl (Nat.le_of_ble_eq_true rfl) dX3_bring_33 ⟨Nat.le_of_ble_eq_true rfl, Nat.le_of_ble_eq_true rfl⟩) hP hD hS [0, 1, 2] [3, 4, 5] rfl rfl (by decide) (by decide) [3, 4, 5, 0, 1, 2] (by decide) (fun _ => rfl) (fun _ H locs hP hD hS => ?_)
      have hP : va_P G.1 vwCl [(h_a2, .inr (6, [.ref h_a2_rows, .ref h_a2_lengths, g_a2_count])), (h_a2_lengths, .inl (k_cI G, 5, .inl t4.1)), (h_a2_rows, .inl (k_cI G, 5, .inl t4.2)), (h_t, .inr (1, [.ref h_t_rows, .ref h_t_lengths, g_t_count])), (h_t_lengths, .inl (k_cI G, 15, .inl w_t_lengths)), (h_t_rows, .inl (k_cI G, 15, .inl w_t_rows))] H := hP
      have hD : va_D A [(h_a2, .inr (6, [.ref h_a2_rows, .ref h_a2_lengths, g_a2_count])), (h_a2_lengths, .inl (k_cI G, 5, .inl t4.1)), (h_a2_rows, .inl (k_cI G, 5, .inl t4.2)), (h_t, .inr (1, [.ref h_t_rows, .ref h_t_lengths, g_t_count])), (h_t_lengths, .inl (k_cI G, 15, .inl w_t_lengths)), (h_t_rows, .inl (k_cI G, 15, .inl w_t_rows))] := hD
      refine lv_iinc (v := x3 + 1) (lv' := [(3, .int (x3 + 1)), (0, .ref h_t), (1, .int x1), (2, .ref h_a2)]) hx hb dX3_bring_36 hl (k := 3) rfl rfl (by decide) rfl (fun ls hl => ?_)
      refine lv_goto (tgt := 2) hx hb dX3_bring_39 (by decide) ?_
      exact ih x1 (x3 + 1) t4.1 t4.2 w_t_lengths w_t_rows _ _ _ hP hD hS (lv_sub hl [1, 2, 3, 0] rfl) hrun
set_option maxHeartbeats 4000000 in
set_option maxRecDepth 100000 in
theorem c_X3_bring {l : Launch} {G : k_G} {h_a2 h_a2_lengths h_a2_rows h_t h_t_lengths h_t_rows : Nat} {g_a2_count g_t_count : Value} {sz : Nat} {p1 : Int32} {w_a2_lengths : Nat → Int32} {w_a2_rows : Nat → Int32} {w_t_lengths : Nat → Int32} {w_t_rows : Nat → Int32} {out : (Nat → Int32) × (Nat → Int32)} (hrun : f_X3_bring p1 w_a2_lengths w_a2_rows w_t_lengths w_t_rows = some out) : k_Cv l G yX3_bring wsX3_bring rm_X3_bring [.ref h_t, .int p1, .ref h_a2] [(h_a2, .inr (6, [.ref h_a2_rows, .ref h_a2_lengths, g_a2_count])), (h_a2_lengths, .inl (k_cI G, 5, .inl w_a2_lengths)), (h_a2_rows, .inl (k_cI G, 5, .inl w_a2_rows)), (h_t, .inr (1, [.ref h_t_rows, .ref h_t_lengths, g_t_count])), (h_t_lengths, .inl (k_cI G, 15, .inl w_t_lengths)), (h_t_rows, .inl (k_cI G, 15, .inl w_t_rows))] sz (fun (_ : Unit) => [(h_a2, .inr (6, [.ref h_a2_rows, .ref h_a2_lengths, g_a2_count])), (h_a2_lengths, .inl (k_cI G, 5, .inl out.1)), (h_a2_rows, .inl (k_cI G, 5, .inl out.2)), (h_t, .inr (1, [.ref h_t_rows, .ref h_t_lengths, g_t_count])), (h_t_lengths, .inl (k_cI G, 15, .inl w_t_lengths)), (h_t_rows, .inl (k_cI G, 15, .inl w_t_rows))]) 0 0 := by
  refine k_of (cc := cX3_bring) (nL := 4) (ret := none) (own := RX3) (nm := "bring") (by decide) rfl rfl rfl rfl ?_
  intro p e s m args below meth c ls hsz C0 hP hD hS hl
  have hl : lv_has ls 4 [(0, .ref h_t), (1, .int p1), (2, .ref h_a2)] := hl
  generalize hH : s.heap = H at hP
  have hS : va_S (va_A [(h_a2, .inr (6, [.ref h_a2_rows, .ref h_a2_lengths, g_a2_count])), (h_a2_lengths, .inl (k_cI G, 5, .inl w_a2_lengths)), (h_a2_rows, .inl (k_cI G, 5, .inl w_a2_rows)), (h_t, .inr (1, [.ref h_t_rows, .ref h_t_lengths, g_t_count])), (h_t_lengths, .inl (k_cI G, 15, .inl w_t_lengths)), (h_t_rows, .inl (k_cI G, 15, .inl w_t_rows))] sz) s.heap H [] := by rw [← hH]; exact hS
  clear hH
  generalize va_A [(h_a2, .inr (6, [.ref h_a2_rows, .ref h_a2_lengths, g_a2_count])), (h_a2_lengths, .inl (k_cI G, 5, .inl w_a2_lengths)), (h_a2_rows, .inl (k_cI G, 5, .inl w_a2_rows)), (h_t, .inr (1, [.ref h_t_rows, .ref h_t_lengths, g_t_count])), (h_t_lengths, .inl (k_cI G, 15, .inl w_t_lengths)), (h_t_rows, .inl (k_cI G, 15, .inl w_t_rows))] sz = A at C0 hD hS ⊢
  have hx := C0.1
  have hb := C0.2.1
  have hts := C0.2.2.2.1
  have hown := C0.2.2.2.2.1
  have hK := C0.2.2.2.2.2.2.2.2.1.1
  have hNW := C0.2.2.2.2.2.2.2.2.1.2.1
  have hSF := C0.2.2.2.2.2.2.2.2.1.2.2
  rw [f_X3_bring] at hrun
  refine lv_iconst (v := 0) hx hb dX3_bring_0 (by decide) ?_
  refine lv_istore_n (lv' := [(3, .int (0 : Int32)), (0, .ref h_t), (1, .int p1), (2, .ref h_a2)]) hx hb dX3_bring_1 rfl hl (by decide) rfl (fun ls hl => ?_)
  exact t_X3_bring_2 C0 kFU p1 (0 : Int32) w_a2_lengths w_a2_rows w_t_lengths w_t_rows _ _ _ hP hD hS (lv_sub hl [1, 2, 3, 0] rfl) hrun
theorem u_X6_init_1 : (Cond.methodLink RX6 3 objectInit) ∈ wsX6_init := List.mem_of_getElem? (i := 1) (by decide +kernel)
theorem u_X6_init_2 : (Cond.instanceMethod objectInit) ∈ wsX6_init := List.mem_of_getElem? (i := 2) (by decide +kernel)
theorem u_X6_init_3 : (Cond.code objectInit ⟨#[0xb1]⟩ 1 none) ∈ wsX6_init := List.mem_of_getElem? (i := 3) (by decide +kernel)
theorem u_X6_init_4 : (Cond.arrayClass .int) ∈ wsX6_init := List.mem_of_getElem? (i := 4) (by decide +kernel)
theorem u_X6_init_5 : (Cond.fieldLink RX6 9 "ClosePacking$Lines" "counts" "[I") ∈ wsX6_init := List.mem_of_getElem? (i := 5) (by decide +kernel)
theorem u_X6_init_6 : (Cond.fieldLink RX6 15 "ClosePacking$Lines" "spare" "[I") ∈ wsX6_init := List.mem_of_getElem? (i := 6) (by decide +kernel)
theorem n_X6_init_X6 : ∀ w ∈ u_ws RX6 TX6 2, w ∈ wsX6_init := by decide +kernel
abbrev rm_X6_init : Room := { frames := 1, cells := 2, slots := 72, locals := 20 }
theorem e_X6_init : yX6_init.cls = RX6 ∧ yX6_init.cls ≠ "java/lang/invoke/MethodHandle" ∧ yX6_init.cls ≠ "java/lang/invoke/VarHandle" ∧ (parseMethodDescriptor yX6_init.desc).map (fun d => d.parameters.length) = some 0 := by decide +kernel
set_option maxHeartbeats 4000000 in
set_option maxRecDepth 100000 in
theorem c_X6_init {l : Launch} {G : k_G} {h_t : Nat} {g_t_counts g_t_spare : Value} {sz : Nat} {out : Unit} (hrun : f_X6_init  = some out) : k_Cv l G yX6_init wsX6_init rm_X6_init [.ref h_t] [(h_t, .inr (4, [g_t_counts, g_t_spare]))] sz (fun (u : Nat × Nat) => [(h_t, .inr (4, [.ref u.1, .ref u.2])), (u.1, .inl (k_cI G, 36, .inl (fun _ => 0))), (u.2, .inl (k_cI G, 36, .inl (fun _ => 0)))]) 2 72 := by
  refine k_of (cc := cX6_init) (nL := 1) (ret := none) (own := RX6) (nm := "<init>") (by decide) rfl rfl rfl rfl ?_
  intro p e s m args below meth c ls hsz C0 hP hD hS hl
  have hl : lv_has ls 1 [(0, .ref h_t)] := hl
  generalize hH : s.heap = H at hP
  have hS : va_S (va_A [(h_t, .inr (4, [g_t_counts, g_t_spare]))] sz) s.heap H [] := by rw [← hH]; exact hS
  clear hH
  generalize va_A [(h_t, .inr (4, [g_t_counts, g_t_spare]))] sz = A at C0 hD hS ⊢
  have hx := C0.1
  have hb := C0.2.1
  have hts := C0.2.2.2.1
  have hown := C0.2.2.2.2.1
  have hK := C0.2.2.2.2.2.2.2.2.1.1
  have hNW := C0.2.2.2.2.2.2.2.2.1.2.1
  have hSF := C0.2.2.2.2.2.2.2.2.1.2.2
  rw [f_X6_init] at hrun
  refine lv_aload_n hx hb dX6_init_0 rfl (lv_at hl 0 rfl) ?_
  refine W.objInit hx hb hown (hts _ u_X6_init_1) (hts _ u_X6_init_2) (hts _ u_X6_init_3) rfl (by rw [C0.2.2.2.2.2.2.1]; exact hl.1) rfl dX6_init_1 (Nat.le_of_ble_eq_true rfl) (Nat.le_of_ble_eq_true rfl) ?_
  refine W.eq (g2 := F0 m 4 ls []) rfl ?_
  refine lv_aload_n hx hb dX6_init_4 rfl (lv_at hl 0 rfl) ?_
  refine lv_bipush (v := 36) hx hb dX6_init_5 (by decide) ?_
  refine k_newa (atype := .int) (ty := .int) (a0 := (36, .inl (fun _ => 0))) C0 (hts _ u_X6_init_4) rfl 1 rfl (fun _ h9 => h9) hP hD hS (fun _ => rfl) (by decide) (by decide) (Nat.le_of_ble_eq_true rfl) (Nat.le_of_ble_eq_true rfl) (Nat.le_of_ble_eq_true rfl) dX6_init_7 (fun h_n7 H hP hD hS => ?_)
  have hP : va_P G.1 vwCl [(h_t, .inr (4, [g_t_counts, g_t_spare])), (h_n7, .inl (k_cI G, 36, .inl (fun _ => 0)))] H := hP
  have hD : va_D A [(h_t, .inr (4, [g_t_counts, g_t_spare])), (h_n7, .inl (k_cI G, 36, .inl (fun _ => 0)))] := hD
  refine W.widen (k := 1) (n := 36) (Nat.le_of_ble_eq_true rfl) (Nat.le_of_ble_eq_true rfl) ?_
  refine va_put (D := G.1) (ci := 4) (v := .ref h_n7) (ty := (tyX6 0)) (C := RX6) (T := TX6) (N := 2) hx hb hts n_X6_init_X6 tyX6 tyX6_ok nmX6 hown hK hP hD hS 0 rfl rfl 0 (by decide) (hts _ u_X6_init_5) (fun _ h9 => h9) rfl (by decide +kernel) rfl rfl (Nat.le_of_ble_eq_true rfl) dX6_init_9 (fun H locs hP hD hS => ?_)
  have hP : va_P G.1 vwCl [(h_t, .inr (4, [.ref h_n7, g_t_spare])), (h_n7, .inl (k_cI G, 36, .inl (fun _ => 0)))] H := hP
  have hD : va_D A [(h_t, .inr (4, [.ref h_n7, g_t_spare])), (h_n7, .inl (k_cI G, 36, .inl (fun _ => 0)))] := hD
  refine lv_aload_n hx hb dX6_init_12 rfl (lv_at hl 0 rfl) ?_
  refine lv_bipush (v := 36) hx hb dX6_init_13 (by decide) ?_
  refine k_newa (atype := .int) (ty := .int) (a0 := (36, .inl (fun _ => 0))) C0 (hts _ u_X6_init_4) rfl 1 rfl (fun _ h9 => h9) hP hD hS (fun _ => rfl) (by decide) (by decide) (Nat.le_of_ble_eq_true rfl) (Nat.le_of_ble_eq_true rfl) (Nat.le_of_ble_eq_true rfl) dX6_init_15 (fun h_n15 H hP hD hS => ?_)
  have hP : va_P G.1 vwCl [(h_t, .inr (4, [.ref h_n7, g_t_spare])), (h_n7, .inl (k_cI G, 36, .inl (fun _ => 0))), (h_n15, .inl (k_cI G, 36, .inl (fun _ => 0)))] H := hP
  have hD : va_D A [(h_t, .inr (4, [.ref h_n7, g_t_spare])), (h_n7, .inl (k_cI G, 36, .inl (fun _ => 0))), (h_n15, .inl (k_cI G, 36, .inl (fun _ => 0)))] := hD
  refine W.widen (k := 2) (n := 72) (Nat.le_of_ble_eq_true rfl) (Nat.le_of_ble_eq_true rfl) ?_
  refine va_put (D := G.1) (ci := 4) (v := .ref h_n15) (ty := (tyX6 1)) (C := RX6) (T := TX6) (N := 2) hx hb hts n_X6_init_X6 tyX6 tyX6_ok nmX6 hown hK hP hD hS 0 rfl rfl 1 (by decide) (hts _ u_X6_init_6) (fun _ h9 => h9) rfl (by decide +kernel) rfl rfl (Nat.le_of_ble_eq_true rfl) dX6_init_17 (fun H locs hP hD hS => ?_)
  have hP : va_P G.1 vwCl [(h_t, .inr (4, [.ref h_n7, .ref h_n15])), (h_n7, .inl (k_cI G, 36, .inl (fun _ => 0))), (h_n15, .inl (k_cI G, 36, .inl (fun _ => 0)))] H := hP
  have hD : va_D A [(h_t, .inr (4, [.ref h_n7, .ref h_n15])), (h_n7, .inl (k_cI G, 36, .inl (fun _ => 0))), (h_n15, .inl (k_cI G, 36, .inl (fun _ => 0)))] := hD
  obtain rfl := Option.some.inj hrun
  exact k_retv C0 hP hD hS (h_n7, h_n15) rfl dX6_init_20
theorem u_X6_countPoints_1 : (Cond.fieldLink RX6 9 "ClosePacking$Lines" "counts" "[I") ∈ wsX6_countPoints := List.mem_of_getElem? (i := 1) (by decide +kernel)
theorem u_X6_countPoints_2 : (Cond.static yX11_at) ∈ wsX6_countPoints := List.mem_of_getElem? (i := 2) (by decide +kernel)
theorem u_X6_countPoints_3 : (Cond.initialized RX11) ∈ wsX6_countPoints := List.mem_of_getElem? (i := 3) (by decide +kernel)
theorem u_X6_countPoints_5 : (Cond.static yX11_set) ∈ wsX6_countPoints := List.mem_of_getElem? (i := 5) (by decide +kernel)
theorem n_X6_countPoints_X6 : ∀ w ∈ u_ws RX6 TX6 2, w ∈ wsX6_countPoints := by decide +kernel
theorem nw_X6_countPoints_17 : k_nest[17]? = some (.methodLinkNest RX6 39 yX11_at "ClosePacking") := rfl
theorem nw_X6_countPoints_18 : k_nest[18]? = some (.methodLinkNest RX6 43 yX11_set "ClosePacking") := rfl
abbrev rm_X6_countPoints : Room := { frames := 1, cells := 0, slots := 0, locals := 22 }
theorem e_X6_countPoints : yX6_countPoints.cls = RX6 ∧ yX6_countPoints.cls ≠ "java/lang/invoke/MethodHandle" ∧ yX6_countPoints.cls ≠ "java/lang/invoke/VarHandle" ∧ (parseMethodDescriptor yX6_countPoints.desc).map (fun d => d.parameters.length) = some 5 := by decide +kernel
set_option maxHeartbeats 4000000 in
set_option maxRecDepth 100000 in
theorem t_X6_countPoints_67 {l : Launch} {G : k_G} {p : Program} {e : Env} {s : State} {m : MethodId} {args : Array Value} {below : List Frame} {meth : Method} {c : Code} {A : Nat → Prop} {h_t h_t_counts : Nat} {g_t_spare : Value} {out : (Nat → Int32)} (C0 : k_C G p s m args meth c A cX6_countPoints RX6 wsX6_countPoints 10 none "countPoints") (k36 : Int32 → Int32 → Int32 → Int32 → Int32 → Int32 → Int32 → (Nat → Int32) → Option ((Nat → Int32))) (hk36 : ∀ (x2 : Int32) (x3 : Int32) (x4 : Int32) (x5 : Int32) (x6 : Int32) (x7 : Int32) (x8 : Int32) (w_t_counts : Nat → Int32) (H : Heap) (locs : List Loc) (ls : Array Slot), va_P G.1 vwCl [(h_t, .inr (4, [.ref h_t_counts, g_t_spare])), (h_t_counts, .inl (k_cI G, 36, .inl w_t_counts))] H → va_D A [(h_t, .inr (4, [.ref h_t_counts, g_t_spare])), (h_t_counts, .inl (k_cI G, 36, .inl w_t_counts))] → va_S A s.heap H locs → lv_has ls 10 [(0, .ref h_t), (2, .int x2), (3, .int x3), (4, .int x4), (5, .int x5), (6, .int x6), (7, .int x7), (8, .int x8)] → k36 x2 x3 x4 x5 x6 x7 x8 w_t_counts = some out → W p l e rm_X6_countPoints s m args below meth c H locs 0 0 (MQ below (k_Qv G A (fun (_ : Unit) => [(h_t, .inr (4, [.ref h_t_counts, g_t_spare])), (h_t_counts, .inl (k_cI G, 36, .inl out))])) args s 0 0 A) (F0 m 36 ls [])) : ∀ (x2 : Int32) (x3 : Int32) (x4 : Int32) (x5 : Int32) (x6 : Int32) (x7 : Int32) (x8 : Int32) (s0 : Int32) (w_t_counts : Nat → Int32) (H : Heap) (locs : List Loc) (ls : Array Slot), va_P G.1 vwCl [(h_t, .inr (4, [.ref h_t_counts, g_t_spare])), (h_t_counts, .inl (k_cI G, 36, .inl w_t_counts))] H → va_D A [(h_t, .inr (4, [.ref h_t_counts, g_t_spare])), (h_t_counts, .inl (k_cI G, 36, .inl w_t_counts))] → va_S A s.heap H locs → lv_has ls 10 [(0, .ref h_t), (2, .int x2), (3, .int x3), (4, .int x4), (5, .int x5), (6, .int x6), (7, .int x7), (8, .int x8)] → f_X6_countPoints_67 k36 x2 x3 x4 x5 x6 x7 x8 s0 w_t_counts = some out → W p l e rm_X6_countPoints s m args below meth c H locs 0 0 (MQ below (k_Qv G A (fun (_ : Unit) => [(h_t, .inr (4, [.ref h_t_counts, g_t_spare])), (h_t_counts, .inl (k_cI G, 36, .inl out))])) args s 0 0 A) (F0 m 67 ls [.int s0]) := by
  have hx := C0.1
  have hb := C0.2.1
  have hts := C0.2.2.2.1
  have hown := C0.2.2.2.2.1
  have hK := C0.2.2.2.2.2.2.2.2.1.1
  have hNW := C0.2.2.2.2.2.2.2.2.1.2.1
  have hSF := C0.2.2.2.2.2.2.2.2.1.2.2
  intro x2 x3 x4 x5 x6 x7 x8 s0 w_t_counts H locs ls hP hD hS hl hrun
  rw [f_X6_countPoints_67] at hrun
  refine lv_istore (lv' := [(9, .int s0), (0, .ref h_t), (2, .int x2), (3, .int x3), (4, .int x4), (5, .int x5), (6, .int x6), (7, .int x7), (8, .int x8)]) hx hb dX6_countPoints_67 hl (by decide) rfl (fun ls hl => ?_)
  refine lv_aload_n hx hb dX6_countPoints_69 rfl (lv_at hl 1 rfl) ?_
  refine va_get (D := G.1) (ci := 4) (v := .ref h_t_counts) (C := RX6) (T := TX6) (N := 2) hx hb hts n_X6_countPoints_X6 hown hK hP 0 rfl rfl 0 (by decide) (hts _ u_X6_countPoints_1) (fun _ h9 => h9) rfl dX6_countPoints_70 ?_
  refine lv_iload hx hb dX6_countPoints_73 (lv_at hl 0 rfl) ?_
  refine lv_aload_n hx hb dX6_countPoints_75 rfl (lv_at hl 1 rfl) ?_
  refine va_get (D := G.1) (ci := 4) (v := .ref h_t_counts) (C := RX6) (T := TX6) (N := 2) hx hb hts n_X6_countPoints_X6 hown hK hP 0 rfl rfl 0 (by decide) (hts _ u_X6_countPoints_1) (fun _ h9 => h9) rfl dX6_countPoints_76 ?_
  refine lv_iload hx hb dX6_countPoints_79 (lv_at hl 0 rfl) ?_
  obtain ⟨t1, et1, hrun⟩ := bd_inv hrun
  refine k_calli (w2 := fun (_ : Unit) => [(h_t, .inr (4, [.ref h_t_counts, g_t_spare])), (h_t_counts, .inl (k_cI G, 36, .inl w_t_counts))]) C0 (k_runSN (rest := [.int s0, .ref h_t_counts]) C0 (c_X11_at et1) (va_cnB 2 hts gX6_countPoints_X11_at_n39 rfl rfl rfl (k_nw hNW 17 nw_X6_countPoints_17) (hts _ u_X6_countPoints_3) e_X11_at.2 ⟨Nat.le_of_ble_eq_true rfl, Nat.le_of_ble_eq_true rfl⟩) (hts _ u_X6_countPoints_2) hP hD hS [1] rfl (by decide) rfl hl.1 rfl (Nat.le_of_ble_eq_true rfl) dX6_countPoints_81 ⟨Nat.le_of_ble_eq_true rfl, Nat.le_of_ble_eq_true rfl⟩) hP hD hS [1] [0] rfl rfl (by decide) (by decide) [0, 1] (by decide) (fun _ => rfl) (fun _ H locs hP hD hS => ?_)
  have hP : va_P G.1 vwCl [(h_t, .inr (4, [.ref h_t_counts, g_t_spare])), (h_t_counts, .inl (k_cI G, 36, .inl w_t_counts))] H := hP
  have hD : va_D A [(h_t, .inr (4, [.ref h_t_counts, g_t_spare])), (h_t_counts, .inl (k_cI G, 36, .inl w_t_counts))] := hD
  refine lv_iconst (v := 1) hx hb dX6_countPoints_84 (by decide) ?_
  refine lv_iadd hx hb dX6_countPoints_85 ?_
  obtain ⟨t2, et2, hrun⟩ := bd_inv hrun
  refine k_callv (w2 := fun (_ : Unit) => [(h_t, .inr (4, [.ref h_t_counts, g_t_spare])), (h_t_counts, .inl (k_cI G, 36, .inl t2))]) C0 (k_runSN (rest := []) C0 (c_X11_set et2) (va_cnB 3 hts gX6_countPoints_X11_set_n43 rfl rfl rfl (k_nw hNW 18 nw_X6_countPoints_18) (hts _ u_X6_countPoints_3) e_X11_set.2 ⟨Nat.le_of_ble_eq_true rfl, Nat.le_of_ble_eq_true rfl⟩) (hts _ u_X6_countPoints_5) hP hD hS [1] rfl (by decide) rfl hl.1 rfl (Nat.le_of_ble_eq_true rfl) dX6_countPoints_86 ⟨Nat.le_of_ble_eq_true rfl, Nat.le_of_ble_eq_true rfl⟩) hP hD hS [1] [0] rfl rfl (by decide) (by decide) [0, 1] (by decide) (fun _ => rfl) (fun _ H locs hP hD hS => ?_)
  have hP : va_P G.1 vwCl [(h_t, .inr (4, [.ref h_t_counts, g_t_spare])), (h_t_counts, .inl (k_cI G, 36, .inl t2))] H := hP
  have hD : va_D A [(h_t, .inr (4, [.ref h_t_counts, g_t_spare])), (h_t_counts, .inl (k_cI G, 36, .inl t2))] := hD
  refine lv_iload hx hb dX6_countPoints_89 (lv_at hl 6 rfl) ?_
  refine lv_iload hx hb dX6_countPoints_91 (lv_at hl 7 rfl) ?_
  refine lv_iload_n hx hb dX6_countPoints_93 rfl (lv_at hl 2 rfl) ?_
  obtain ⟨t3, et3, hrun⟩ := bd_inv hrun
  refine k_calli0 C0 (k_runS (rest := [.int x6]) C0 (c_X8_startsUp et3) (va_cwS 2 hts gX6_countPoints_X8_startsUp rfl rfl rfl e_X8_startsUp.2 ⟨Nat.le_of_ble_eq_true rfl, Nat.le_of_ble_eq_true rfl⟩) hP hD hS [] rfl (by decide) rfl hl.1 rfl (Nat.le_of_ble_eq_true rfl) dX6_countPoints_94 ⟨Nat.le_of_ble_eq_true rfl, Nat.le_of_ble_eq_true rfl⟩) hP hS (fun H locs hP hS => ?_)
  obtain ⟨t4, et4, hrun⟩ := bd_inv hrun
  refine k_calli0 C0 (k_runS (rest := []) C0 (c_X8_letterBehind et4) (va_cwS 2 hts gX6_countPoints_X8_letterBehind rfl rfl rfl e_X8_letterBehind.2 ⟨Nat.le_of_ble_eq_true rfl, Nat.le_of_ble_eq_true rfl⟩) hP hD hS [] rfl (by decide) rfl hl.1 rfl (Nat.le_of_ble_eq_true rfl) dX6_countPoints_97 ⟨Nat.le_of_ble_eq_true rfl, Nat.le_of_ble_eq_true rfl⟩) hP hS (fun H locs hP hS => ?_)
  refine lv_istore (lv' := [(6, .int t4), (9, .int s0), (0, .ref h_t), (2, .int x2), (3, .int x3), (4, .int x4), (5, .int x5), (7, .int x7), (8, .int x8)]) hx hb dX6_countPoints_100 hl (by decide) rfl (fun ls hl => ?_)
  refine lv_iload hx hb dX6_countPoints_102 (lv_at hl 7 rfl) ?_
  refine lv_iload_n hx hb dX6_countPoints_104 rfl (lv_at hl 3 rfl) ?_
  obtain ⟨t5, et5, hrun⟩ := bd_inv hrun
  refine k_calli0 C0 (k_runS (rest := []) C0 (c_X8_turned et5) (va_cwS 2 hts gX6_countPoints_X8_turned rfl rfl rfl e_X8_turned.2 ⟨Nat.le_of_ble_eq_true rfl, Nat.le_of_ble_eq_true rfl⟩) hP hD hS [] rfl (by decide) rfl hl.1 rfl (Nat.le_of_ble_eq_true rfl) dX6_countPoints_105 ⟨Nat.le_of_ble_eq_true rfl, Nat.le_of_ble_eq_true rfl⟩) hP hS (fun H locs hP hS => ?_)
  refine lv_istore (lv' := [(7, .int t5), (6, .int t4), (9, .int s0), (0, .ref h_t), (2, .int x2), (3, .int x3), (4, .int x4), (5, .int x5), (8, .int x8)]) hx hb dX6_countPoints_108 hl (by decide) rfl (fun ls hl => ?_)
  refine lv_iinc (v := x8 + 1) (lv' := [(8, .int (x8 + 1)), (7, .int t5), (6, .int t4), (9, .int s0), (0, .ref h_t), (2, .int x2), (3, .int x3), (4, .int x4), (5, .int x5)]) hx hb dX6_countPoints_110 hl (k := 8) rfl rfl (by decide) rfl (fun ls hl => ?_)
  refine lv_goto (tgt := 36) hx hb dX6_countPoints_113 (by decide) ?_
  exact hk36 x2 x3 x4 x5 t4 t5 (x8 + 1) t2 _ _ _ hP hD hS (lv_sub hl [4, 5, 6, 7, 8, 2, 1, 0] rfl) hrun
set_option maxHeartbeats 4000000 in
set_option maxRecDepth 100000 in
theorem t_X6_countPoints_36 {l : Launch} {G : k_G} {p : Program} {e : Env} {s : State} {m : MethodId} {args : Array Value} {below : List Frame} {meth : Method} {c : Code} {A : Nat → Prop} {h_t h_t_counts : Nat} {g_t_spare : Value} {out : (Nat → Int32)} (C0 : k_C G p s m args meth c A cX6_countPoints RX6 wsX6_countPoints 10 none "countPoints") : ∀ (n : Nat) (x2 : Int32) (x3 : Int32) (x4 : Int32) (x5 : Int32) (x6 : Int32) (x7 : Int32) (x8 : Int32) (w_t_counts : Nat → Int32) (H : Heap) (locs : List Loc) (ls : Array Slot), va_P G.1 vwCl [(h_t, .inr (4, [.ref h_t_counts, g_t_spare])), (h_t_counts, .inl (k_cI G, 36, .inl w_t_counts))] H → va_D A [(h_t, .inr (4, [.ref h_t_counts, g_t_spare])), (h_t_counts, .inl (k_cI G, 36, .inl w_t_counts))] → va_S A s.heap H locs → lv_has ls 10 [(0, .ref h_t), (2, .int x2), (3, .int x3), (4, .int x4), (5, .int x5), (6, .int x6), (7, .int x7), (8, .int x8)] → f_X6_countPoints_36 n x2 x3 x4 x5 x6 x7 x8 w_t_counts = some out → W p l e rm_X6_countPoints s m args below meth c H locs 0 0 (MQ below (k_Qv G A (fun (_ : Unit) => [(h_t, .inr (4, [.ref h_t_counts, g_t_spare])), (h_t_counts, .inl (k_cI G, 36, .inl out))])) args s 0 0 A) (F0 m 36 ls []) := by
  have hx := C0.1
  have hb := C0.2.1
  have hts := C0.2.2.2.1
  have hown := C0.2.2.2.2.1
  have hK := C0.2.2.2.2.2.2.2.2.1.1
  have hNW := C0.2.2.2.2.2.2.2.2.1.2.1
  have hSF := C0.2.2.2.2.2.2.2.2.1.2.2
  intro n
  induction n with
  | zero =>
    intro x2 x3 x4 x5 x6 x7 x8 w_t_counts H locs ls hP hD hS hl hrun
    rw [f_X6_countPoints_36] at hrun
    cases hrun
  | succ n ih =>
    intro x2 x3 x4 x5 x6 x7 x8 w_t_counts H locs ls hP hD hS hl hrun
    rw [f_X6_countPoints_36] at hrun
    refine lv_iload hx hb dX6_countPoints_36 (lv_at hl 7 rfl) ?_
    refine lv_iload_n hx hb dX6_countPoints_38 rfl (lv_at hl 2 rfl) ?_
    refine lv_icmp_ge (tgt := 116) hx hb dX6_countPoints_39 (by decide) (fun q1 => ?_) (fun q1 => ?_)
    · replace hrun := if_t q1 hrun
      obtain rfl := Option.some.inj hrun
      exact k_retv C0 hP hD hS () rfl dX6_countPoints_116
    · replace hrun := if_f q1 hrun
      refine lv_iload hx hb dX6_countPoints_42 (lv_at hl 4 rfl) ?_
      refine lv_if_le (tgt := 66) hx hb dX6_countPoints_44 (by decide) (fun q2 => ?_) (fun q2 => ?_)
      · replace hrun := if_t q2 hrun
        refine lv_iconst (v := 0) hx hb dX6_countPoints_66 (by decide) ?_
        exact t_X6_countPoints_67 C0 (fun x2 x3 x4 x5 x6 x7 x8 w_t_counts => f_X6_countPoints_36 n x2 x3 x4 x5 x6 x7 x8 w_t_counts) ih x2 x3 x4 x5 x6 x7 x8 (0 : Int32) w_t_counts _ _ _ hP hD hS hl hrun
      · replace hrun := if_f q2 hrun
        refine lv_iload hx hb dX6_countPoints_47 (lv_at hl 3 rfl) ?_
        refine lv_iload hx hb dX6_countPoints_49 (lv_at hl 7 rfl) ?_
        refine lv_imul hx hb dX6_countPoints_51 ?_
        refine lv_iload hx hb dX6_countPoints_52 (lv_at hl 4 rfl) ?_
        refine lv_iconst (v := 3) hx hb dX6_countPoints_54 (by decide) ?_
        refine lv_idiv hx hb dX6_countPoints_55 (by decide) ?_
        refine lv_iload hx hb dX6_countPoints_56 (lv_at hl 5 rfl) ?_
        refine lv_imul hx hb dX6_countPoints_58 ?_
        refine lv_iadd hx hb dX6_countPoints_59 ?_
        refine lv_iload hx hb dX6_countPoints_60 (lv_at hl 4 rfl) ?_
        obtain ⟨gz3, hrun⟩ := gd_inv hrun
        refine lv_irem hx hb dX6_countPoints_62 gz3 ?_
        refine lv_goto (tgt := 67) hx hb dX6_countPoints_63 (by decide) ?_
        exact t_X6_countPoints_67 C0 (fun x2 x3 x4 x5 x6 x7 x8 w_t_counts => f_X6_countPoints_36 n x2 x3 x4 x5 x6 x7 x8 w_t_counts) ih x2 x3 x4 x5 x6 x7 x8 (((x4 * x8) + ((x5 / (3 : Int32)) * x6)) - ((x4 * x8) + ((x5 / (3 : Int32)) * x6)) / x5 * x5) w_t_counts _ _ _ hP hD hS hl hrun
set_option maxHeartbeats 4000000 in
set_option maxRecDepth 100000 in
theorem t_X6_countPoints_3 {l : Launch} {G : k_G} {p : Program} {e : Env} {s : State} {m : MethodId} {args : Array Value} {below : List Frame} {meth : Method} {c : Code} {A : Nat → Prop} {h_t h_t_counts : Nat} {g_t_spare : Value} {out : (Nat → Int32)} (C0 : k_C G p s m args meth c A cX6_countPoints RX6 wsX6_countPoints 10 none "countPoints") : ∀ (n : Nat) (x1 : Int32) (x2 : Int32) (x3 : Int32) (x4 : Int32) (x5 : Int32) (x6 : Int32) (w_t_counts : Nat → Int32) (H : Heap) (locs : List Loc) (ls : Array Slot), va_P G.1 vwCl [(h_t, .inr (4, [.ref h_t_counts, g_t_spare])), (h_t_counts, .inl (k_cI G, 36, .inl w_t_counts))] H → va_D A [(h_t, .inr (4, [.ref h_t_counts, g_t_spare])), (h_t_counts, .inl (k_cI G, 36, .inl w_t_counts))] → va_S A s.heap H locs → lv_has ls 10 [(0, .ref h_t), (1, .int x1), (2, .int x2), (3, .int x3), (4, .int x4), (5, .int x5), (6, .int x6)] → f_X6_countPoints_3 n x1 x2 x3 x4 x5 x6 w_t_counts = some out → W p l e rm_X6_countPoints s m args below meth c H locs 0 0 (MQ below (k_Qv G A (fun (_ : Unit) => [(h_t, .inr (4, [.ref h_t_counts, g_t_spare])), (h_t_counts, .inl (k_cI G, 36, .inl out))])) args s 0 0 A) (F0 m 3 ls []) := by
  have hx := C0.1
  have hb := C0.2.1
  have hts := C0.2.2.2.1
  have hown := C0.2.2.2.2.1
  have hK := C0.2.2.2.2.2.2.2.2.1.1
  have hNW := C0.2.2.2.2.2.2.2.2.1.2.1
  have hSF := C0.2.2.2.2.2.2.2.2.1.2.2
  intro n
  induction n with
  | zero =>
    intro x1 x2 x3 x4 x5 x6 w_t_counts H locs ls hP hD hS hl hrun
    rw [f_X6_countPoints_3] at hrun
    cases hrun
  | succ n ih =>
    intro x1 x2 x3 x4 x5 x6 w_t_counts H locs ls hP hD hS hl hrun
    rw [f_X6_countPoints_3] at hrun
    refine lv_iload hx hb dX6_countPoints_3 (lv_at hl 6 rfl) ?_
    refine lv_aload_n hx hb dX6_countPoints_5 rfl (lv_at hl 0 rfl) ?_
    refine va_get (D := G.1) (ci := 4) (v := .ref h_t_counts) (C := RX6) (T := TX6) (N := 2) hx hb hts n_X6_countPoints_X6 hown hK hP 0 rfl rfl 0 (by decide) (hts _ u_X6_countPoints_1) (fun _ h9 => h9) rfl dX6_countPoints_6 ?_
    refine va_alen (v := (36 : Int32)) hx hb hK hP 1 1 rfl rfl rfl dX6_countPoints_9 ?_
    refine lv_icmp_ge (tgt := 27) hx hb dX6_countPoints_10 (by decide) (fun q1 => ?_) (fun q1 => ?_)
    · replace hrun := if_t q1 hrun
      refine lv_iconst (v := 0) hx hb dX6_countPoints_27 (by decide) ?_
      refine lv_istore (lv' := [(6, .int (0 : Int32)), (0, .ref h_t), (1, .int x1), (2, .int x2), (3, .int x3), (4, .int x4), (5, .int x5)]) hx hb dX6_countPoints_28 hl (by decide) rfl (fun ls hl => ?_)
      refine lv_iload_n hx hb dX6_countPoints_30 rfl (lv_at hl 2 rfl) ?_
      refine lv_istore (lv' := [(7, .int x1), (6, .int (0 : Int32)), (0, .ref h_t), (1, .int x1), (2, .int x2), (3, .int x3), (4, .int x4), (5, .int x5)]) hx hb dX6_countPoints_31 hl (by decide) rfl (fun ls hl => ?_)
      refine lv_iconst (v := 0) hx hb dX6_countPoints_33 (by decide) ?_
      refine lv_istore (lv' := [(8, .int (0 : Int32)), (7, .int x1), (6, .int (0 : Int32)), (0, .ref h_t), (1, .int x1), (2, .int x2), (3, .int x3), (4, .int x4), (5, .int x5)]) hx hb dX6_countPoints_34 hl (by decide) rfl (fun ls hl => ?_)
      exact t_X6_countPoints_36 C0 kFU x2 x3 x4 x5 (0 : Int32) x1 (0 : Int32) w_t_counts _ _ _ hP hD hS (lv_sub hl [3, 5, 6, 7, 8, 2, 1, 0] rfl) hrun
    · replace hrun := if_f q1 hrun
      refine lv_aload_n hx hb dX6_countPoints_13 rfl (lv_at hl 0 rfl) ?_
      refine va_get (D := G.1) (ci := 4) (v := .ref h_t_counts) (C := RX6) (T := TX6) (N := 2) hx hb hts n_X6_countPoints_X6 hown hK hP 0 rfl rfl 0 (by decide) (hts _ u_X6_countPoints_1) (fun _ h9 => h9) rfl dX6_countPoints_14 ?_
      refine lv_iload hx hb dX6_countPoints_17 (lv_at hl 6 rfl) ?_
      refine lv_iconst (v := 0) hx hb dX6_countPoints_19 (by decide) ?_
      obtain ⟨gz2, hrun⟩ := gd_inv hrun
      obtain ⟨w3, ew, hrun⟩ := lt_inv hrun
      refine va_iast hx hb hK hP hD hS 1 1 rfl rfl gz2 dX6_countPoints_20 (fun H locs hP hD hS => ?_)
      have hP : va_P G.1 vwCl [(h_t, .inr (4, [.ref h_t_counts, g_t_spare])), (h_t_counts, .inl (k_cI G, 36, .inl w3))] H := by rw [ew]; exact hP
      have hD : va_D A [(h_t, .inr (4, [.ref h_t_counts, g_t_spare])), (h_t_counts, .inl (k_cI G, 36, .inl w3))] := by rw [ew]; exact hD
      clear ew
      refine lv_iinc (v := x6 + 1) (lv' := [(6, .int (x6 + 1)), (0, .ref h_t), (1, .int x1), (2, .int x2), (3, .int x3), (4, .int x4), (5, .int x5)]) hx hb dX6_countPoints_21 hl (k := 6) rfl rfl (by decide) rfl (fun ls hl => ?_)
      refine lv_goto (tgt := 3) hx hb dX6_countPoints_24 (by decide) ?_
      exact ih x1 x2 x3 x4 x5 (x6 + 1) w3 _ _ _ hP hD hS (lv_sub hl [1, 2, 3, 4, 5, 6, 0] rfl) hrun
set_option maxHeartbeats 4000000 in
set_option maxRecDepth 100000 in
theorem c_X6_countPoints {l : Launch} {G : k_G} {h_t h_t_counts : Nat} {g_t_spare : Value} {sz : Nat} {p1 : Int32} {p2 : Int32} {p3 : Int32} {p4 : Int32} {p5 : Int32} {w_t_counts : Nat → Int32} {out : (Nat → Int32)} (hrun : f_X6_countPoints p1 p2 p3 p4 p5 w_t_counts = some out) : k_Cv l G yX6_countPoints wsX6_countPoints rm_X6_countPoints [.ref h_t, .int p1, .int p2, .int p3, .int p4, .int p5] [(h_t, .inr (4, [.ref h_t_counts, g_t_spare])), (h_t_counts, .inl (k_cI G, 36, .inl w_t_counts))] sz (fun (_ : Unit) => [(h_t, .inr (4, [.ref h_t_counts, g_t_spare])), (h_t_counts, .inl (k_cI G, 36, .inl out))]) 0 0 := by
  refine k_of (cc := cX6_countPoints) (nL := 10) (ret := none) (own := RX6) (nm := "countPoints") (by decide) rfl rfl rfl rfl ?_
  intro p e s m args below meth c ls hsz C0 hP hD hS hl
  have hl : lv_has ls 10 [(0, .ref h_t), (1, .int p1), (2, .int p2), (3, .int p3), (4, .int p4), (5, .int p5)] := hl
  generalize hH : s.heap = H at hP
  have hS : va_S (va_A [(h_t, .inr (4, [.ref h_t_counts, g_t_spare])), (h_t_counts, .inl (k_cI G, 36, .inl w_t_counts))] sz) s.heap H [] := by rw [← hH]; exact hS
  clear hH
  generalize va_A [(h_t, .inr (4, [.ref h_t_counts, g_t_spare])), (h_t_counts, .inl (k_cI G, 36, .inl w_t_counts))] sz = A at C0 hD hS ⊢
  have hx := C0.1
  have hb := C0.2.1
  have hts := C0.2.2.2.1
  have hown := C0.2.2.2.2.1
  have hK := C0.2.2.2.2.2.2.2.2.1.1
  have hNW := C0.2.2.2.2.2.2.2.2.1.2.1
  have hSF := C0.2.2.2.2.2.2.2.2.1.2.2
  rw [f_X6_countPoints] at hrun
  refine lv_iconst (v := 0) hx hb dX6_countPoints_0 (by decide) ?_
  refine lv_istore (lv' := [(6, .int (0 : Int32)), (0, .ref h_t), (1, .int p1), (2, .int p2), (3, .int p3), (4, .int p4), (5, .int p5)]) hx hb dX6_countPoints_1 hl (by decide) rfl (fun ls hl => ?_)
  exact t_X6_countPoints_3 C0 kFU p1 p2 p3 p4 p5 (0 : Int32) w_t_counts _ _ _ hP hD hS (lv_sub hl [1, 2, 3, 4, 5, 6, 0] rfl) hrun
theorem u_X6_isZero_1 : (Cond.fieldLink RX6 9 "ClosePacking$Lines" "counts" "[I") ∈ wsX6_isZero := List.mem_of_getElem? (i := 1) (by decide +kernel)
theorem u_X6_isZero_2 : (Cond.static yX11_at) ∈ wsX6_isZero := List.mem_of_getElem? (i := 2) (by decide +kernel)
theorem u_X6_isZero_3 : (Cond.initialized RX11) ∈ wsX6_isZero := List.mem_of_getElem? (i := 3) (by decide +kernel)
theorem n_X6_isZero_X6 : ∀ w ∈ u_ws RX6 TX6 2, w ∈ wsX6_isZero := by decide +kernel
theorem nw_X6_isZero_17 : k_nest[17]? = some (.methodLinkNest RX6 39 yX11_at "ClosePacking") := rfl
abbrev rm_X6_isZero : Room := { frames := 1, cells := 0, slots := 0, locals := 21 }
theorem e_X6_isZero : yX6_isZero.cls = RX6 ∧ yX6_isZero.cls ≠ "java/lang/invoke/MethodHandle" ∧ yX6_isZero.cls ≠ "java/lang/invoke/VarHandle" ∧ (parseMethodDescriptor yX6_isZero.desc).map (fun d => d.parameters.length) = some 1 := by decide +kernel
set_option maxHeartbeats 4000000 in
set_option maxRecDepth 100000 in
theorem t_X6_isZero_2 {l : Launch} {G : k_G} {p : Program} {e : Env} {s : State} {m : MethodId} {args : Array Value} {below : List Frame} {meth : Method} {c : Code} {A : Nat → Prop} {h_t h_t_counts : Nat} {g_t_spare : Value} {out : Int32} (C0 : k_C G p s m args meth c A cX6_isZero RX6 wsX6_isZero 3 (some .boolean) "isZero") : ∀ (n : Nat) (x1 : Int32) (x2 : Int32) (w_t_counts : Nat → Int32) (H : Heap) (locs : List Loc) (ls : Array Slot), va_P G.1 vwCl [(h_t, .inr (4, [.ref h_t_counts, g_t_spare])), (h_t_counts, .inl (k_cI G, 36, .inl w_t_counts))] H → va_D A [(h_t, .inr (4, [.ref h_t_counts, g_t_spare])), (h_t_counts, .inl (k_cI G, 36, .inl w_t_counts))] → va_S A s.heap H locs → lv_has ls 3 [(0, .ref h_t), (1, .int x1), (2, .int x2)] → f_X6_isZero_2 n x1 x2 w_t_counts = some out → W p l e rm_X6_isZero s m args below meth c H locs 0 0 (MQ below (k_Qi G A out (fun (_ : Unit) => [(h_t, .inr (4, [.ref h_t_counts, g_t_spare])), (h_t_counts, .inl (k_cI G, 36, .inl w_t_counts))])) args s 0 0 A) (F0 m 2 ls []) := by
  have hx := C0.1
  have hb := C0.2.1
  have hts := C0.2.2.2.1
  have hown := C0.2.2.2.2.1
  have hK := C0.2.2.2.2.2.2.2.2.1.1
  have hNW := C0.2.2.2.2.2.2.2.2.1.2.1
  have hSF := C0.2.2.2.2.2.2.2.2.1.2.2
  intro n
  induction n with
  | zero =>
    intro x1 x2 w_t_counts H locs ls hP hD hS hl hrun
    rw [f_X6_isZero_2] at hrun
    cases hrun
  | succ n ih =>
    intro x1 x2 w_t_counts H locs ls hP hD hS hl hrun
    rw [f_X6_isZero_2] at hrun
    refine lv_iload_n hx hb dX6_isZero_2 rfl (lv_at hl 2 rfl) ?_
    refine lv_iload_n hx hb dX6_isZero_3 rfl (lv_at hl 1 rfl) ?_
    refine lv_icmp_ge (tgt := 26) hx hb dX6_isZero_4 (by decide) (fun q1 => ?_) (fun q1 => ?_)
    · replace hrun := if_t q1 hrun
      refine lv_iconst (v := 1) hx hb dX6_isZero_26 (by decide) ?_
      obtain rfl := Option.some.inj hrun
      exact k_retz C0 hP hD hS () rfl rfl rfl dX6_isZero_27
    · replace hrun := if_f q1 hrun
      refine lv_aload_n hx hb dX6_isZero_7 rfl (lv_at hl 0 rfl) ?_
      refine va_get (D := G.1) (ci := 4) (v := .ref h_t_counts) (C := RX6) (T := TX6) (N := 2) hx hb hts n_X6_isZero_X6 hown hK hP 0 rfl rfl 0 (by decide) (hts _ u_X6_isZero_1) (fun _ h9 => h9) rfl dX6_isZero_8 ?_
      refine lv_iload_n hx hb dX6_isZero_11 rfl (lv_at hl 2 rfl) ?_
      obtain ⟨t2, et2, hrun⟩ := bd_inv hrun
      refine k_calli (w2 := fun (_ : Unit) => [(h_t, .inr (4, [.ref h_t_counts, g_t_spare])), (h_t_counts, .inl (k_cI G, 36, .inl w_t_counts))]) C0 (k_runSN (rest := []) C0 (c_X11_at et2) (va_cnB 2 hts gX6_isZero_X11_at_n39 rfl rfl rfl (k_nw hNW 17 nw_X6_isZero_17) (hts _ u_X6_isZero_3) e_X11_at.2 ⟨Nat.le_of_ble_eq_true rfl, Nat.le_of_ble_eq_true rfl⟩) (hts _ u_X6_isZero_2) hP hD hS [1] rfl (by decide) rfl hl.1 rfl (Nat.le_of_ble_eq_true rfl) dX6_isZero_12 ⟨Nat.le_of_ble_eq_true rfl, Nat.le_of_ble_eq_true rfl⟩) hP hD hS [1] [0] rfl rfl (by decide) (by decide) [0, 1] (by decide) (fun _ => rfl) (fun _ H locs hP hD hS => ?_)
      have hP : va_P G.1 vwCl [(h_t, .inr (4, [.ref h_t_counts, g_t_spare])), (h_t_counts, .inl (k_cI G, 36, .inl w_t_counts))] H := hP
      have hD : va_D A [(h_t, .inr (4, [.ref h_t_counts, g_t_spare])), (h_t_counts, .inl (k_cI G, 36, .inl w_t_counts))] := hD
      refine lv_if_eq (tgt := 20) hx hb dX6_isZero_15 (by decide) (fun q3 => ?_) (fun q3 => ?_)
      · replace hrun := if_t q3 hrun
        refine lv_iinc (v := x2 + 1) (lv' := [(2, .int (x2 + 1)), (0, .ref h_t), (1, .int x1)]) hx hb dX6_isZero_20 hl (k := 2) rfl rfl (by decide) rfl (fun ls hl => ?_)
        refine lv_goto (tgt := 2) hx hb dX6_isZero_23 (by decide) ?_
        exact ih x1 (x2 + 1) w_t_counts _ _ _ hP hD hS (lv_sub hl [1, 2, 0] rfl) hrun
      · replace hrun := if_f q3 hrun
        refine lv_iconst (v := 0) hx hb dX6_isZero_18 (by decide) ?_
        obtain rfl := Option.some.inj hrun
        exact k_retz C0 hP hD hS () rfl rfl rfl dX6_isZero_19
set_option maxHeartbeats 4000000 in
set_option maxRecDepth 100000 in
theorem c_X6_isZero {l : Launch} {G : k_G} {h_t h_t_counts : Nat} {g_t_spare : Value} {sz : Nat} {p1 : Int32} {w_t_counts : Nat → Int32} {out : Int32} (hrun : f_X6_isZero p1 w_t_counts = some out) : k_Ci l G yX6_isZero wsX6_isZero rm_X6_isZero [.ref h_t, .int p1] [(h_t, .inr (4, [.ref h_t_counts, g_t_spare])), (h_t_counts, .inl (k_cI G, 36, .inl w_t_counts))] sz out (fun (_ : Unit) => [(h_t, .inr (4, [.ref h_t_counts, g_t_spare])), (h_t_counts, .inl (k_cI G, 36, .inl w_t_counts))]) 0 0 := by
  refine k_of (cc := cX6_isZero) (nL := 3) (ret := some .boolean) (own := RX6) (nm := "isZero") (by decide) rfl rfl rfl rfl ?_
  intro p e s m args below meth c ls hsz C0 hP hD hS hl
  have hl : lv_has ls 3 [(0, .ref h_t), (1, .int p1)] := hl
  generalize hH : s.heap = H at hP
  have hS : va_S (va_A [(h_t, .inr (4, [.ref h_t_counts, g_t_spare])), (h_t_counts, .inl (k_cI G, 36, .inl w_t_counts))] sz) s.heap H [] := by rw [← hH]; exact hS
  clear hH
  generalize va_A [(h_t, .inr (4, [.ref h_t_counts, g_t_spare])), (h_t_counts, .inl (k_cI G, 36, .inl w_t_counts))] sz = A at C0 hD hS ⊢
  have hx := C0.1
  have hb := C0.2.1
  have hts := C0.2.2.2.1
  have hown := C0.2.2.2.2.1
  have hK := C0.2.2.2.2.2.2.2.2.1.1
  have hNW := C0.2.2.2.2.2.2.2.2.1.2.1
  have hSF := C0.2.2.2.2.2.2.2.2.1.2.2
  rw [f_X6_isZero] at hrun
  refine lv_iconst (v := 0) hx hb dX6_isZero_0 (by decide) ?_
  refine lv_istore_n (lv' := [(2, .int (0 : Int32)), (0, .ref h_t), (1, .int p1)]) hx hb dX6_isZero_1 rfl hl (by decide) rfl (fun ls hl => ?_)
  exact t_X6_isZero_2 C0 kFU p1 (0 : Int32) w_t_counts _ _ _ hP hD hS (lv_sub hl [1, 2, 0] rfl) hrun
theorem u_X6_subtractTurned_1 : (Cond.fieldLink RX6 15 "ClosePacking$Lines" "spare" "[I") ∈ wsX6_subtractTurned := List.mem_of_getElem? (i := 1) (by decide +kernel)
theorem u_X6_subtractTurned_2 : (Cond.fieldLink RX6 9 "ClosePacking$Lines" "counts" "[I") ∈ wsX6_subtractTurned := List.mem_of_getElem? (i := 2) (by decide +kernel)
theorem u_X6_subtractTurned_3 : (Cond.static yX11_at) ∈ wsX6_subtractTurned := List.mem_of_getElem? (i := 3) (by decide +kernel)
theorem u_X6_subtractTurned_4 : (Cond.initialized RX11) ∈ wsX6_subtractTurned := List.mem_of_getElem? (i := 4) (by decide +kernel)
theorem u_X6_subtractTurned_6 : (Cond.static yX11_set) ∈ wsX6_subtractTurned := List.mem_of_getElem? (i := 6) (by decide +kernel)
theorem n_X6_subtractTurned_X6 : ∀ w ∈ u_ws RX6 TX6 2, w ∈ wsX6_subtractTurned := by decide +kernel
theorem nw_X6_subtractTurned_17 : k_nest[17]? = some (.methodLinkNest RX6 39 yX11_at "ClosePacking") := rfl
theorem nw_X6_subtractTurned_18 : k_nest[18]? = some (.methodLinkNest RX6 43 yX11_set "ClosePacking") := rfl
abbrev rm_X6_subtractTurned : Room := { frames := 1, cells := 0, slots := 0, locals := 22 }
theorem e_X6_subtractTurned : yX6_subtractTurned.cls = RX6 ∧ yX6_subtractTurned.cls ≠ "java/lang/invoke/MethodHandle" ∧ yX6_subtractTurned.cls ≠ "java/lang/invoke/VarHandle" ∧ (parseMethodDescriptor yX6_subtractTurned.desc).map (fun d => d.parameters.length) = some 2 := by decide +kernel
set_option maxHeartbeats 4000000 in
set_option maxRecDepth 100000 in
theorem t_X6_subtractTurned_23 {l : Launch} {G : k_G} {p : Program} {e : Env} {s : State} {m : MethodId} {args : Array Value} {below : List Frame} {meth : Method} {c : Code} {A : Nat → Prop} {h_t : Nat} {out : (Nat → Int32) × (Nat → Int32)} (C0 : k_C G p s m args meth c A cX6_subtractTurned RX6 wsX6_subtractTurned 5 none "subtractTurned") (k2 : Int32 → Int32 → Int32 → (Nat → Int32) → (Nat → Int32) → Option ((Nat → Int32) × (Nat → Int32))) (hk2 : ∀ (h_t_counts : Nat) (h_t_spare : Nat) (x1 : Int32) (x2 : Int32) (x3 : Int32) (w_t_counts : Nat → Int32) (w_t_spare : Nat → Int32) (H : Heap) (locs : List Loc) (ls : Array Slot), va_P G.1 vwCl [(h_t, .inr (4, [.ref h_t_counts, .ref h_t_spare])), (h_t_counts, .inl (k_cI G, 36, .inl w_t_counts)), (h_t_spare, .inl (k_cI G, 36, .inl w_t_spare))] H → va_D A [(h_t, .inr (4, [.ref h_t_counts, .ref h_t_spare])), (h_t_counts, .inl (k_cI G, 36, .inl w_t_counts)), (h_t_spare, .inl (k_cI G, 36, .inl w_t_spare))] → va_S A s.heap H locs → lv_has ls 5 [(0, .ref h_t), (1, .int x1), (2, .int x2), (3, .int x3)] → k2 x1 x2 x3 w_t_counts w_t_spare = some out → W p l e rm_X6_subtractTurned s m args below meth c H locs 0 0 (MQ below (k_Qv G A (fun (u : Nat × Nat) => [(h_t, .inr (4, [.ref u.1, .ref u.2])), (u.1, .inl (k_cI G, 36, .inl out.1)), (u.2, .inl (k_cI G, 36, .inl out.2))])) args s 0 0 A) (F0 m 2 ls [])) : ∀ (h_t_counts : Nat) (h_t_spare : Nat) (x1 : Int32) (x2 : Int32) (x3 : Int32) (s0 : Int32) (w_t_counts : Nat → Int32) (w_t_spare : Nat → Int32) (H : Heap) (locs : List Loc) (ls : Array Slot), va_P G.1 vwCl [(h_t, .inr (4, [.ref h_t_counts, .ref h_t_spare])), (h_t_counts, .inl (k_cI G, 36, .inl w_t_counts)), (h_t_spare, .inl (k_cI G, 36, .inl w_t_spare))] H → va_D A [(h_t, .inr (4, [.ref h_t_counts, .ref h_t_spare])), (h_t_counts, .inl (k_cI G, 36, .inl w_t_counts)), (h_t_spare, .inl (k_cI G, 36, .inl w_t_spare))] → va_S A s.heap H locs → lv_has ls 5 [(0, .ref h_t), (1, .int x1), (2, .int x2), (3, .int x3)] → f_X6_subtractTurned_23 k2 x1 x2 x3 s0 w_t_counts w_t_spare = some out → W p l e rm_X6_subtractTurned s m args below meth c H locs 0 0 (MQ below (k_Qv G A (fun (u : Nat × Nat) => [(h_t, .inr (4, [.ref u.1, .ref u.2])), (u.1, .inl (k_cI G, 36, .inl out.1)), (u.2, .inl (k_cI G, 36, .inl out.2))])) args s 0 0 A) (F0 m 23 ls [.int s0]) := by
  have hx := C0.1
  have hb := C0.2.1
  have hts := C0.2.2.2.1
  have hown := C0.2.2.2.2.1
  have hK := C0.2.2.2.2.2.2.2.2.1.1
  have hNW := C0.2.2.2.2.2.2.2.2.1.2.1
  have hSF := C0.2.2.2.2.2.2.2.2.1.2.2
  intro h_t_counts h_t_spare x1 x2 x3 s0 w_t_counts w_t_spare H locs ls hP hD hS hl hrun
  rw [f_X6_subtractTurned_23] at hrun
  refine lv_istore (lv' := [(4, .int s0), (0, .ref h_t), (1, .int x1), (2, .int x2), (3, .int x3)]) hx hb dX6_subtractTurned_23 hl (by decide) rfl (fun ls hl => ?_)
  refine lv_aload_n hx hb dX6_subtractTurned_25 rfl (lv_at hl 1 rfl) ?_
  refine va_get (D := G.1) (ci := 4) (v := .ref h_t_spare) (C := RX6) (T := TX6) (N := 2) hx hb hts n_X6_subtractTurned_X6 hown hK hP 0 rfl rfl 1 (by decide) (hts _ u_X6_subtractTurned_1) (fun _ h9 => h9) rfl dX6_subtractTurned_26 ?_
  refine lv_iload_n hx hb dX6_subtractTurned_29 rfl (lv_at hl 4 rfl) ?_
  refine lv_aload_n hx hb dX6_subtractTurned_30 rfl (lv_at hl 1 rfl) ?_
  refine va_get (D := G.1) (ci := 4) (v := .ref h_t_counts) (C := RX6) (T := TX6) (N := 2) hx hb hts n_X6_subtractTurned_X6 hown hK hP 0 rfl rfl 0 (by decide) (hts _ u_X6_subtractTurned_2) (fun _ h9 => h9) rfl dX6_subtractTurned_31 ?_
  refine lv_iload hx hb dX6_subtractTurned_34 (lv_at hl 0 rfl) ?_
  obtain ⟨t1, et1, hrun⟩ := bd_inv hrun
  refine k_calli (w2 := fun (_ : Unit) => [(h_t, .inr (4, [.ref h_t_counts, .ref h_t_spare])), (h_t_counts, .inl (k_cI G, 36, .inl w_t_counts)), (h_t_spare, .inl (k_cI G, 36, .inl w_t_spare))]) C0 (k_runSN (rest := [.int x3, .ref h_t_spare]) C0 (c_X11_at et1) (va_cnB 2 hts gX6_subtractTurned_X11_at_n39 rfl rfl rfl (k_nw hNW 17 nw_X6_subtractTurned_17) (hts _ u_X6_subtractTurned_4) e_X11_at.2 ⟨Nat.le_of_ble_eq_true rfl, Nat.le_of_ble_eq_true rfl⟩) (hts _ u_X6_subtractTurned_3) hP hD hS [1] rfl (by decide) rfl hl.1 rfl (Nat.le_of_ble_eq_true rfl) dX6_subtractTurned_36 ⟨Nat.le_of_ble_eq_true rfl, Nat.le_of_ble_eq_true rfl⟩) hP hD hS [1] [0, 2] rfl rfl (by decide) (by decide) [0, 2, 1] (by decide) (fun _ => rfl) (fun _ H locs hP hD hS => ?_)
  have hP : va_P G.1 vwCl [(h_t, .inr (4, [.ref h_t_counts, .ref h_t_spare])), (h_t_counts, .inl (k_cI G, 36, .inl w_t_counts)), (h_t_spare, .inl (k_cI G, 36, .inl w_t_spare))] H := hP
  have hD : va_D A [(h_t, .inr (4, [.ref h_t_counts, .ref h_t_spare])), (h_t_counts, .inl (k_cI G, 36, .inl w_t_counts)), (h_t_spare, .inl (k_cI G, 36, .inl w_t_spare))] := hD
  refine lv_aload_n hx hb dX6_subtractTurned_39 rfl (lv_at hl 1 rfl) ?_
  refine va_get (D := G.1) (ci := 4) (v := .ref h_t_counts) (C := RX6) (T := TX6) (N := 2) hx hb hts n_X6_subtractTurned_X6 hown hK hP 0 rfl rfl 0 (by decide) (hts _ u_X6_subtractTurned_2) (fun _ h9 => h9) rfl dX6_subtractTurned_40 ?_
  refine lv_iload_n hx hb dX6_subtractTurned_43 rfl (lv_at hl 4 rfl) ?_
  obtain ⟨t2, et2, hrun⟩ := bd_inv hrun
  refine k_calli (w2 := fun (_ : Unit) => [(h_t, .inr (4, [.ref h_t_counts, .ref h_t_spare])), (h_t_counts, .inl (k_cI G, 36, .inl w_t_counts)), (h_t_spare, .inl (k_cI G, 36, .inl w_t_spare))]) C0 (k_runSN (rest := [.int t1, .int x3, .ref h_t_spare]) C0 (c_X11_at et2) (va_cnB 2 hts gX6_subtractTurned_X11_at_n39 rfl rfl rfl (k_nw hNW 17 nw_X6_subtractTurned_17) (hts _ u_X6_subtractTurned_4) e_X11_at.2 ⟨Nat.le_of_ble_eq_true rfl, Nat.le_of_ble_eq_true rfl⟩) (hts _ u_X6_subtractTurned_3) hP hD hS [1] rfl (by decide) rfl hl.1 rfl (Nat.le_of_ble_eq_true rfl) dX6_subtractTurned_44 ⟨Nat.le_of_ble_eq_true rfl, Nat.le_of_ble_eq_true rfl⟩) hP hD hS [1] [0, 2] rfl rfl (by decide) (by decide) [0, 2, 1] (by decide) (fun _ => rfl) (fun _ H locs hP hD hS => ?_)
  have hP : va_P G.1 vwCl [(h_t, .inr (4, [.ref h_t_counts, .ref h_t_spare])), (h_t_counts, .inl (k_cI G, 36, .inl w_t_counts)), (h_t_spare, .inl (k_cI G, 36, .inl w_t_spare))] H := hP
  have hD : va_D A [(h_t, .inr (4, [.ref h_t_counts, .ref h_t_spare])), (h_t_counts, .inl (k_cI G, 36, .inl w_t_counts)), (h_t_spare, .inl (k_cI G, 36, .inl w_t_spare))] := hD
  refine lv_isub hx hb dX6_subtractTurned_47 ?_
  obtain ⟨t3, et3, hrun⟩ := bd_inv hrun
  refine k_callv (w2 := fun (_ : Unit) => [(h_t, .inr (4, [.ref h_t_counts, .ref h_t_spare])), (h_t_counts, .inl (k_cI G, 36, .inl w_t_counts)), (h_t_spare, .inl (k_cI G, 36, .inl t3))]) C0 (k_runSN (rest := []) C0 (c_X11_set et3) (va_cnB 3 hts gX6_subtractTurned_X11_set_n43 rfl rfl rfl (k_nw hNW 18 nw_X6_subtractTurned_18) (hts _ u_X6_subtractTurned_4) e_X11_set.2 ⟨Nat.le_of_ble_eq_true rfl, Nat.le_of_ble_eq_true rfl⟩) (hts _ u_X6_subtractTurned_6) hP hD hS [2] rfl (by decide) rfl hl.1 rfl (Nat.le_of_ble_eq_true rfl) dX6_subtractTurned_48 ⟨Nat.le_of_ble_eq_true rfl, Nat.le_of_ble_eq_true rfl⟩) hP hD hS [2] [0, 1] rfl rfl (by decide) (by decide) [0, 1, 2] (by decide) (fun _ => rfl) (fun _ H locs hP hD hS => ?_)
  have hP : va_P G.1 vwCl [(h_t, .inr (4, [.ref h_t_counts, .ref h_t_spare])), (h_t_counts, .inl (k_cI G, 36, .inl w_t_counts)), (h_t_spare, .inl (k_cI G, 36, .inl t3))] H := hP
  have hD : va_D A [(h_t, .inr (4, [.ref h_t_counts, .ref h_t_spare])), (h_t_counts, .inl (k_cI G, 36, .inl w_t_counts)), (h_t_spare, .inl (k_cI G, 36, .inl t3))] := hD
  refine lv_iinc (v := x3 + 1) (lv' := [(3, .int (x3 + 1)), (4, .int s0), (0, .ref h_t), (1, .int x1), (2, .int x2)]) hx hb dX6_subtractTurned_51 hl (k := 4) rfl rfl (by decide) rfl (fun ls hl => ?_)
  refine lv_goto (tgt := 2) hx hb dX6_subtractTurned_54 (by decide) ?_
  exact hk2 h_t_counts h_t_spare x1 x2 (x3 + 1) w_t_counts t3 _ _ _ hP hD hS (lv_sub hl [2, 3, 4, 0] rfl) hrun
set_option maxHeartbeats 4000000 in
set_option maxRecDepth 100000 in
theorem t_X6_subtractTurned_2 {l : Launch} {G : k_G} {p : Program} {e : Env} {s : State} {m : MethodId} {args : Array Value} {below : List Frame} {meth : Method} {c : Code} {A : Nat → Prop} {h_t : Nat} {out : (Nat → Int32) × (Nat → Int32)} (C0 : k_C G p s m args meth c A cX6_subtractTurned RX6 wsX6_subtractTurned 5 none "subtractTurned") : ∀ (n : Nat) (h_t_counts : Nat) (h_t_spare : Nat) (x1 : Int32) (x2 : Int32) (x3 : Int32) (w_t_counts : Nat → Int32) (w_t_spare : Nat → Int32) (H : Heap) (locs : List Loc) (ls : Array Slot), va_P G.1 vwCl [(h_t, .inr (4, [.ref h_t_counts, .ref h_t_spare])), (h_t_counts, .inl (k_cI G, 36, .inl w_t_counts)), (h_t_spare, .inl (k_cI G, 36, .inl w_t_spare))] H → va_D A [(h_t, .inr (4, [.ref h_t_counts, .ref h_t_spare])), (h_t_counts, .inl (k_cI G, 36, .inl w_t_counts)), (h_t_spare, .inl (k_cI G, 36, .inl w_t_spare))] → va_S A s.heap H locs → lv_has ls 5 [(0, .ref h_t), (1, .int x1), (2, .int x2), (3, .int x3)] → f_X6_subtractTurned_2 n x1 x2 x3 w_t_counts w_t_spare = some out → W p l e rm_X6_subtractTurned s m args below meth c H locs 0 0 (MQ below (k_Qv G A (fun (u : Nat × Nat) => [(h_t, .inr (4, [.ref u.1, .ref u.2])), (u.1, .inl (k_cI G, 36, .inl out.1)), (u.2, .inl (k_cI G, 36, .inl out.2))])) args s 0 0 A) (F0 m 2 ls []) := by
  have hx := C0.1
  have hb := C0.2.1
  have hts := C0.2.2.2.1
  have hown := C0.2.2.2.2.1
  have hK := C0.2.2.2.2.2.2.2.2.1.1
  have hNW := C0.2.2.2.2.2.2.2.2.1.2.1
  have hSF := C0.2.2.2.2.2.2.2.2.1.2.2
  intro n
  induction n with
  | zero =>
    intro h_t_counts h_t_spare x1 x2 x3 w_t_counts w_t_spare H locs ls hP hD hS hl hrun
    rw [f_X6_subtractTurned_2] at hrun
    cases hrun
  | succ n ih =>
    intro h_t_counts h_t_spare x1 x2 x3 w_t_counts w_t_spare H locs ls hP hD hS hl hrun
    rw [f_X6_subtractTurned_2] at hrun
    refine lv_iload_n hx hb dX6_subtractTurned_2 rfl (lv_at hl 3 rfl) ?_
    refine lv_iload_n hx hb dX6_subtractTurned_3 rfl (lv_at hl 2 rfl) ?_
    refine lv_icmp_ge (tgt := 57) hx hb dX6_subtractTurned_4 (by decide) (fun q1 => ?_) (fun q1 => ?_)
    · replace hrun := if_t q1 hrun
      refine lv_aload_n hx hb dX6_subtractTurned_57 rfl (lv_at hl 0 rfl) ?_
      refine va_get (D := G.1) (ci := 4) (v := .ref h_t_counts) (C := RX6) (T := TX6) (N := 2) hx hb hts n_X6_subtractTurned_X6 hown hK hP 0 rfl rfl 0 (by decide) (hts _ u_X6_subtractTurned_2) (fun _ h9 => h9) rfl dX6_subtractTurned_58 ?_
      refine lv_astore_n (lv' := [(3, .ref h_t_counts), (0, .ref h_t), (1, .int x1), (2, .int x2)]) hx hb dX6_subtractTurned_61 rfl hl (by decide) rfl (fun ls hl => ?_)
      refine lv_aload_n hx hb dX6_subtractTurned_62 rfl (lv_at hl 1 rfl) ?_
      refine lv_aload_n hx hb dX6_subtractTurned_63 rfl (lv_at hl 1 rfl) ?_
      refine va_get (D := G.1) (ci := 4) (v := .ref h_t_spare) (C := RX6) (T := TX6) (N := 2) hx hb hts n_X6_subtractTurned_X6 hown hK hP 0 rfl rfl 1 (by decide) (hts _ u_X6_subtractTurned_1) (fun _ h9 => h9) rfl dX6_subtractTurned_64 ?_
      refine va_put (D := G.1) (ci := 4) (v := .ref h_t_spare) (ty := (tyX6 0)) (C := RX6) (T := TX6) (N := 2) hx hb hts n_X6_subtractTurned_X6 tyX6 tyX6_ok nmX6 hown hK hP hD hS 0 rfl rfl 0 (by decide) (hts _ u_X6_subtractTurned_2) (fun _ h9 => h9) rfl (by decide +kernel) rfl rfl (Nat.le_of_ble_eq_true rfl) dX6_subtractTurned_67 (fun H locs hP hD hS => ?_)
      have hP : va_P G.1 vwCl [(h_t, .inr (4, [.ref h_t_spare, .ref h_t_spare])), (h_t_counts, .inl (k_cI G, 36, .inl w_t_counts)), (h_t_spare, .inl (k_cI G, 36, .inl w_t_spare))] H := hP
      have hD : va_D A [(h_t, .inr (4, [.ref h_t_spare, .ref h_t_spare])), (h_t_counts, .inl (k_cI G, 36, .inl w_t_counts)), (h_t_spare, .inl (k_cI G, 36, .inl w_t_spare))] := hD
      refine lv_aload_n hx hb dX6_subtractTurned_70 rfl (lv_at hl 1 rfl) ?_
      refine lv_aload_n hx hb dX6_subtractTurned_71 rfl (lv_at hl 0 rfl) ?_
      refine va_put (D := G.1) (ci := 4) (v := .ref h_t_counts) (ty := (tyX6 1)) (C := RX6) (T := TX6) (N := 2) hx hb hts n_X6_subtractTurned_X6 tyX6 tyX6_ok nmX6 hown hK hP hD hS 0 rfl rfl 1 (by decide) (hts _ u_X6_subtractTurned_1) (fun _ h9 => h9) rfl (by decide +kernel) rfl rfl (Nat.le_of_ble_eq_true rfl) dX6_subtractTurned_72 (fun H locs hP hD hS => ?_)
      have hP : va_P G.1 vwCl [(h_t, .inr (4, [.ref h_t_spare, .ref h_t_counts])), (h_t_counts, .inl (k_cI G, 36, .inl w_t_counts)), (h_t_spare, .inl (k_cI G, 36, .inl w_t_spare))] H := hP
      have hD : va_D A [(h_t, .inr (4, [.ref h_t_spare, .ref h_t_counts])), (h_t_counts, .inl (k_cI G, 36, .inl w_t_counts)), (h_t_spare, .inl (k_cI G, 36, .inl w_t_spare))] := hD
      obtain rfl := Option.some.inj hrun
      have hP := hP.sub (ws' := [(h_t, .inr (4, [.ref h_t_spare, .ref h_t_counts])), (h_t_spare, .inl (k_cI G, 36, .inl w_t_spare)), (h_t_counts, .inl (k_cI G, 36, .inl w_t_counts))]) [0, 2, 1] rfl
      have hD := hD.sub (ws' := [(h_t, .inr (4, [.ref h_t_spare, .ref h_t_counts])), (h_t_spare, .inl (k_cI G, 36, .inl w_t_spare)), (h_t_counts, .inl (k_cI G, 36, .inl w_t_counts))]) [0, 2, 1] (by decide) rfl
      exact k_retv C0 hP hD hS (h_t_spare, h_t_counts) rfl dX6_subtractTurned_75
    · replace hrun := if_f q1 hrun
      refine lv_iload_n hx hb dX6_subtractTurned_7 rfl (lv_at hl 3 rfl) ?_
      refine lv_iload_n hx hb dX6_subtractTurned_8 rfl (lv_at hl 1 rfl) ?_
      refine lv_icmp_lt (tgt := 18) hx hb dX6_subtractTurned_9 (by decide) (fun q2 => ?_) (fun q2 => ?_)
      · replace hrun := if_t q2 hrun
        refine lv_iload_n hx hb dX6_subtractTurned_18 rfl (lv_at hl 3 rfl) ?_
        refine lv_iload_n hx hb dX6_subtractTurned_19 rfl (lv_at hl 1 rfl) ?_
        refine lv_isub hx hb dX6_subtractTurned_20 ?_
        refine lv_iload_n hx hb dX6_subtractTurned_21 rfl (lv_at hl 2 rfl) ?_
        refine lv_iadd hx hb dX6_subtractTurned_22 ?_
        exact t_X6_subtractTurned_23 C0 (fun x1 x2 x3 w_t_counts w_t_spare => f_X6_subtractTurned_2 n x1 x2 x3 w_t_counts w_t_spare) ih h_t_counts h_t_spare x1 x2 x3 ((x3 - x1) + x2) w_t_counts w_t_spare _ _ _ hP hD hS hl hrun
      · replace hrun := if_f q2 hrun
        refine lv_iload_n hx hb dX6_subtractTurned_12 rfl (lv_at hl 3 rfl) ?_
        refine lv_iload_n hx hb dX6_subtractTurned_13 rfl (lv_at hl 1 rfl) ?_
        refine lv_isub hx hb dX6_subtractTurned_14 ?_
        refine lv_goto (tgt := 23) hx hb dX6_subtractTurned_15 (by decide) ?_
        exact t_X6_subtractTurned_23 C0 (fun x1 x2 x3 w_t_counts w_t_spare => f_X6_subtractTurned_2 n x1 x2 x3 w_t_counts w_t_spare) ih h_t_counts h_t_spare x1 x2 x3 (x3 - x1) w_t_counts w_t_spare _ _ _ hP hD hS hl hrun
set_option maxHeartbeats 4000000 in
set_option maxRecDepth 100000 in
theorem c_X6_subtractTurned {l : Launch} {G : k_G} {h_t h_t_counts h_t_spare : Nat} {sz : Nat} {p1 : Int32} {p2 : Int32} {w_t_counts : Nat → Int32} {w_t_spare : Nat → Int32} {out : (Nat → Int32) × (Nat → Int32)} (hrun : f_X6_subtractTurned p1 p2 w_t_counts w_t_spare = some out) : k_Cv l G yX6_subtractTurned wsX6_subtractTurned rm_X6_subtractTurned [.ref h_t, .int p1, .int p2] [(h_t, .inr (4, [.ref h_t_counts, .ref h_t_spare])), (h_t_counts, .inl (k_cI G, 36, .inl w_t_counts)), (h_t_spare, .inl (k_cI G, 36, .inl w_t_spare))] sz (fun (u : Nat × Nat) => [(h_t, .inr (4, [.ref u.1, .ref u.2])), (u.1, .inl (k_cI G, 36, .inl out.1)), (u.2, .inl (k_cI G, 36, .inl out.2))]) 0 0 := by
  refine k_of (cc := cX6_subtractTurned) (nL := 5) (ret := none) (own := RX6) (nm := "subtractTurned") (by decide) rfl rfl rfl rfl ?_
  intro p e s m args below meth c ls hsz C0 hP hD hS hl
  have hl : lv_has ls 5 [(0, .ref h_t), (1, .int p1), (2, .int p2)] := hl
  generalize hH : s.heap = H at hP
  have hS : va_S (va_A [(h_t, .inr (4, [.ref h_t_counts, .ref h_t_spare])), (h_t_counts, .inl (k_cI G, 36, .inl w_t_counts)), (h_t_spare, .inl (k_cI G, 36, .inl w_t_spare))] sz) s.heap H [] := by rw [← hH]; exact hS
  clear hH
  generalize va_A [(h_t, .inr (4, [.ref h_t_counts, .ref h_t_spare])), (h_t_counts, .inl (k_cI G, 36, .inl w_t_counts)), (h_t_spare, .inl (k_cI G, 36, .inl w_t_spare))] sz = A at C0 hD hS ⊢
  have hx := C0.1
  have hb := C0.2.1
  have hts := C0.2.2.2.1
  have hown := C0.2.2.2.2.1
  have hK := C0.2.2.2.2.2.2.2.2.1.1
  have hNW := C0.2.2.2.2.2.2.2.2.1.2.1
  have hSF := C0.2.2.2.2.2.2.2.2.1.2.2
  rw [f_X6_subtractTurned] at hrun
  refine lv_iconst (v := 0) hx hb dX6_subtractTurned_0 (by decide) ?_
  refine lv_istore_n (lv' := [(3, .int (0 : Int32)), (0, .ref h_t), (1, .int p1), (2, .int p2)]) hx hb dX6_subtractTurned_1 rfl hl (by decide) rfl (fun ls hl => ?_)
  exact t_X6_subtractTurned_2 C0 kFU h_t_counts h_t_spare p1 p2 (0 : Int32) w_t_counts w_t_spare _ _ _ hP hD hS (lv_sub hl [1, 2, 3, 0] rfl) hrun
theorem u_X6_goesOut_1 : (Cond.fieldLink RX6 28 "ClosePacking$Lines" "PRIMES" "[I") ∈ wsX6_goesOut := List.mem_of_getElem? (i := 1) (by decide +kernel)
abbrev rm_X6_goesOut : Room := { frames := 3, cells := 0, slots := 0, locals := 62 }
theorem e_X6_goesOut : yX6_goesOut.cls = RX6 ∧ yX6_goesOut.cls ≠ "java/lang/invoke/MethodHandle" ∧ yX6_goesOut.cls ≠ "java/lang/invoke/VarHandle" ∧ (parseMethodDescriptor yX6_goesOut.desc).map (fun d => d.parameters.length) = some 3 := by decide +kernel
set_option maxHeartbeats 4000000 in
set_option maxRecDepth 100000 in
theorem t_X6_goesOut_107 {l : Launch} {G : k_G} {p : Program} {e : Env} {s : State} {m : MethodId} {args : Array Value} {below : List Frame} {meth : Method} {c : Code} {A : Nat → Prop} {h_t : Nat} {out : Int32 × (Nat → Int32) × (Nat → Int32)} (C0 : k_C G p s m args meth c A cX6_goesOut RX6 wsX6_goesOut 8 (some .boolean) "goesOut") (k66 : Int32 → Int32 → (Nat → Int32) → (Nat → Int32) → Option (Int32 × (Nat → Int32) × (Nat → Int32))) (hk66 : ∀ (h_t_counts : Nat) (h_t_spare : Nat) (x5 : Int32) (x6 : Int32) (w_t_counts : Nat → Int32) (w_t_spare : Nat → Int32) (H : Heap) (locs : List Loc) (ls : Array Slot), va_P G.1 vwCl [(h_t, .inr (4, [.ref h_t_counts, .ref h_t_spare])), (h_t_counts, .inl (k_cI G, 36, .inl w_t_counts)), (h_t_spare, .inl (k_cI G, 36, .inl w_t_spare))] H → va_D A [(h_t, .inr (4, [.ref h_t_counts, .ref h_t_spare])), (h_t_counts, .inl (k_cI G, 36, .inl w_t_counts)), (h_t_spare, .inl (k_cI G, 36, .inl w_t_spare))] → va_S A s.heap H locs → lv_has ls 8 [(0, .ref h_t), (5, .int x5), (6, .int x6)] → k66 x5 x6 w_t_counts w_t_spare = some out → W p l e rm_X6_goesOut s m args below meth c H locs 0 0 (MQ below (k_Qi G A out.1 (fun (u : Nat × Nat) => [(h_t, .inr (4, [.ref u.1, .ref u.2])), (u.1, .inl (k_cI G, 36, .inl out.2.1)), (u.2, .inl (k_cI G, 36, .inl out.2.2))])) args s 0 0 A) (F0 m 66 ls [])) : ∀ (h_t_counts : Nat) (h_t_spare : Nat) (x5 : Int32) (x6 : Int32) (w_t_counts : Nat → Int32) (w_t_spare : Nat → Int32) (H : Heap) (locs : List Loc) (ls : Array Slot), va_P G.1 vwCl [(h_t, .inr (4, [.ref h_t_counts, .ref h_t_spare])), (h_t_counts, .inl (k_cI G, 36, .inl w_t_counts)), (h_t_spare, .inl (k_cI G, 36, .inl w_t_spare))] H → va_D A [(h_t, .inr (4, [.ref h_t_counts, .ref h_t_spare])), (h_t_counts, .inl (k_cI G, 36, .inl w_t_counts)), (h_t_spare, .inl (k_cI G, 36, .inl w_t_spare))] → va_S A s.heap H locs → lv_has ls 8 [(0, .ref h_t), (5, .int x5), (6, .int x6)] → f_X6_goesOut_107 k66 x5 x6 w_t_counts w_t_spare = some out → W p l e rm_X6_goesOut s m args below meth c H locs 0 0 (MQ below (k_Qi G A out.1 (fun (u : Nat × Nat) => [(h_t, .inr (4, [.ref u.1, .ref u.2])), (u.1, .inl (k_cI G, 36, .inl out.2.1)), (u.2, .inl (k_cI G, 36, .inl out.2.2))])) args s 0 0 A) (F0 m 107 ls []) := by
  have hx := C0.1
  have hb := C0.2.1
  have hts := C0.2.2.2.1
  have hown := C0.2.2.2.2.1
  have hK := C0.2.2.2.2.2.2.2.2.1.1
  have hNW := C0.2.2.2.2.2.2.2.2.1.2.1
  have hSF := C0.2.2.2.2.2.2.2.2.1.2.2
  intro h_t_counts h_t_spare x5 x6 w_t_counts w_t_spare H locs ls hP hD hS hl hrun
  rw [f_X6_goesOut_107] at hrun
  refine lv_iinc (v := x6 + 1) (lv' := [(6, .int (x6 + 1)), (0, .ref h_t), (5, .int x5)]) hx hb dX6_goesOut_107 hl (k := 2) rfl rfl (by decide) rfl (fun ls hl => ?_)
  refine lv_goto (tgt := 66) hx hb dX6_goesOut_110 (by decide) ?_
  exact hk66 h_t_counts h_t_spare x5 (x6 + 1) w_t_counts w_t_spare _ _ _ hP hD hS (lv_sub hl [1, 2, 0] rfl) hrun
set_option maxHeartbeats 4000000 in
set_option maxRecDepth 100000 in
theorem t_X6_goesOut_66 {l : Launch} {G : k_G} {p : Program} {e : Env} {s : State} {m : MethodId} {args : Array Value} {below : List Frame} {meth : Method} {c : Code} {A : Nat → Prop} {h_t : Nat} {out : Int32 × (Nat → Int32) × (Nat → Int32)} (C0 : k_C G p s m args meth c A cX6_goesOut RX6 wsX6_goesOut 8 (some .boolean) "goesOut") : ∀ (n : Nat) (h_t_counts : Nat) (h_t_spare : Nat) (x5 : Int32) (x6 : Int32) (w_t_counts : Nat → Int32) (w_t_spare : Nat → Int32) (H : Heap) (locs : List Loc) (ls : Array Slot), va_P G.1 vwCl [(h_t, .inr (4, [.ref h_t_counts, .ref h_t_spare])), (h_t_counts, .inl (k_cI G, 36, .inl w_t_counts)), (h_t_spare, .inl (k_cI G, 36, .inl w_t_spare))] H → va_D A [(h_t, .inr (4, [.ref h_t_counts, .ref h_t_spare])), (h_t_counts, .inl (k_cI G, 36, .inl w_t_counts)), (h_t_spare, .inl (k_cI G, 36, .inl w_t_spare))] → va_S A s.heap H locs → lv_has ls 8 [(0, .ref h_t), (5, .int x5), (6, .int x6)] → f_X6_goesOut_66 n x5 x6 w_t_counts w_t_spare = some out → W p l e rm_X6_goesOut s m args below meth c H locs 0 0 (MQ below (k_Qi G A out.1 (fun (u : Nat × Nat) => [(h_t, .inr (4, [.ref u.1, .ref u.2])), (u.1, .inl (k_cI G, 36, .inl out.2.1)), (u.2, .inl (k_cI G, 36, .inl out.2.2))])) args s 0 0 A) (F0 m 66 ls []) := by
  have hx := C0.1
  have hb := C0.2.1
  have hts := C0.2.2.2.1
  have hown := C0.2.2.2.2.1
  have hK := C0.2.2.2.2.2.2.2.2.1.1
  have hNW := C0.2.2.2.2.2.2.2.2.1.2.1
  have hSF := C0.2.2.2.2.2.2.2.2.1.2.2
  intro n
  induction n with
  | zero =>
    intro h_t_counts h_t_spare x5 x6 w_t_counts w_t_spare H locs ls hP hD hS hl hrun
    rw [f_X6_goesOut_66] at hrun
    cases hrun
  | succ n ih =>
    intro h_t_counts h_t_spare x5 x6 w_t_counts w_t_spare H locs ls hP hD hS hl hrun
    rw [f_X6_goesOut_66] at hrun
    refine lv_iload hx hb dX6_goesOut_66 (lv_at hl 2 rfl) ?_
    refine va_gets hx hb hSF.1 hS hown (hts _ u_X6_goesOut_1) (fun _ h9 => h9) dX6_goesOut_68 ?_
    refine va_tlen (v := 5) hx hb hSF.2.1 hS rfl dX6_goesOut_71 ?_
    refine lv_icmp_ge (tgt := 113) hx hb dX6_goesOut_72 (by decide) (fun q1 => ?_) (fun q1 => ?_)
    · replace hrun := if_t q1 hrun
      refine lv_aload_n hx hb dX6_goesOut_113 rfl (lv_at hl 0 rfl) ?_
      refine lv_iload hx hb dX6_goesOut_114 (lv_at hl 1 rfl) ?_
      obtain ⟨t2, et2, hrun⟩ := bd_inv hrun
      refine k_calli (w2 := fun (_ : Unit) => [(h_t, .inr (4, [.ref h_t_counts, .ref h_t_spare])), (h_t_counts, .inl (k_cI G, 36, .inl w_t_counts)), (h_t_spare, .inl (k_cI G, 36, .inl w_t_spare))]) C0 (k_runV (rest := []) C0 (c_X6_isZero et2) (cwV 1 hts gX6_goesOut_X6_isZero rfl rfl rfl e_X6_isZero ⟨Nat.le_of_ble_eq_true rfl, Nat.le_of_ble_eq_true rfl⟩) hP hD hS [0, 1] rfl (by decide) 0 (qc := (RX6, TX6, 2)) rfl rfl rfl rfl hl.1 rfl (Nat.le_of_ble_eq_true rfl) dX6_goesOut_116 ⟨Nat.le_of_ble_eq_true rfl, Nat.le_of_ble_eq_true rfl⟩) hP hD hS [0, 1] [2] rfl rfl (by decide) (by decide) [1, 2, 0] (by decide) (fun _ => rfl) (fun _ H locs hP hD hS => ?_)
      have hP : va_P G.1 vwCl [(h_t, .inr (4, [.ref h_t_counts, .ref h_t_spare])), (h_t_counts, .inl (k_cI G, 36, .inl w_t_counts)), (h_t_spare, .inl (k_cI G, 36, .inl w_t_spare))] H := hP
      have hD : va_D A [(h_t, .inr (4, [.ref h_t_counts, .ref h_t_spare])), (h_t_counts, .inl (k_cI G, 36, .inl w_t_counts)), (h_t_spare, .inl (k_cI G, 36, .inl w_t_spare))] := hD
      obtain ⟨gz3, hrun⟩ := gd_inv hrun
      obtain rfl := Option.some.inj hrun
      exact k_retz C0 hP hD hS (h_t_counts, h_t_spare) rfl rfl (k_nar01 gz3) dX6_goesOut_119
    · replace hrun := if_f q1 hrun
      refine va_gets hx hb hSF.1 hS hown (hts _ u_X6_goesOut_1) (fun _ h9 => h9) dX6_goesOut_75 ?_
      refine lv_iload hx hb dX6_goesOut_78 (lv_at hl 2 rfl) ?_
      obtain ⟨gz4, hrun⟩ := gd_inv hrun
      refine va_ti (v := .int (k_prm.getD x6.toNatClampNeg 0)) hx hb hSF.2.1 hS gz4 rfl dX6_goesOut_80 ?_
      obtain ⟨n5, en, hrun⟩ := lt_inv hrun
      refine k_nmi en ?_
      clear en
      refine lv_istore (lv' := [(7, .int n5), (0, .ref h_t), (5, .int x5), (6, .int x6)]) hx hb dX6_goesOut_81 hl (by decide) rfl (fun ls hl => ?_)
      refine lv_iload hx hb dX6_goesOut_83 (lv_at hl 0 rfl) ?_
      refine lv_if_le (tgt := 107) hx hb dX6_goesOut_85 (by decide) (fun q6 => ?_) (fun q6 => ?_)
      · replace hrun := if_t q6 hrun
        exact t_X6_goesOut_107 C0 (fun x5 x6 w_t_counts w_t_spare => f_X6_goesOut_66 n x5 x6 w_t_counts w_t_spare) ih h_t_counts h_t_spare x5 x6 w_t_counts w_t_spare _ _ _ hP hD hS (lv_sub hl [1, 2, 3] rfl) hrun
      · replace hrun := if_f q6 hrun
        refine lv_iload hx hb dX6_goesOut_88 (lv_at hl 2 rfl) ?_
        refine lv_iload hx hb dX6_goesOut_90 (lv_at hl 0 rfl) ?_
        obtain ⟨gz7, hrun⟩ := gd_inv hrun
        refine lv_irem hx hb dX6_goesOut_92 gz7 ?_
        refine lv_if_ne (tgt := 107) hx hb dX6_goesOut_93 (by decide) (fun q8 => ?_) (fun q8 => ?_)
        · replace hrun := if_f q8 hrun
          exact t_X6_goesOut_107 C0 (fun x5 x6 w_t_counts w_t_spare => f_X6_goesOut_66 n x5 x6 w_t_counts w_t_spare) ih h_t_counts h_t_spare x5 x6 w_t_counts w_t_spare _ _ _ hP hD hS (lv_sub hl [1, 2, 3] rfl) hrun
        · replace hrun := if_t q8 hrun
          refine lv_aload_n hx hb dX6_goesOut_96 rfl (lv_at hl 1 rfl) ?_
          refine lv_iload hx hb dX6_goesOut_97 (lv_at hl 2 rfl) ?_
          refine lv_iload hx hb dX6_goesOut_99 (lv_at hl 0 rfl) ?_
          obtain ⟨gz9, hrun⟩ := gd_inv hrun
          refine lv_idiv hx hb dX6_goesOut_101 gz9 ?_
          refine lv_iload hx hb dX6_goesOut_102 (lv_at hl 2 rfl) ?_
          obtain ⟨t10, et10, hrun⟩ := bd_inv hrun
          refine k_callv (w2 := fun u11 => [(h_t, .inr (4, [.ref u11.1, .ref u11.2])), (u11.1, .inl (k_cI G, 36, .inl t10.1)), (u11.2, .inl (k_cI G, 36, .inl t10.2))]) C0 (k_runV (rest := []) C0 (c_X6_subtractTurned et10) (cwV 2 hts gX6_goesOut_X6_subtractTurned rfl rfl rfl e_X6_subtractTurned ⟨Nat.le_of_ble_eq_true rfl, Nat.le_of_ble_eq_true rfl⟩) hP hD hS [0, 1, 2] rfl (by decide) 0 (qc := (RX6, TX6, 2)) rfl rfl rfl rfl hl.1 rfl (Nat.le_of_ble_eq_true rfl) dX6_goesOut_104 ⟨Nat.le_of_ble_eq_true rfl, Nat.le_of_ble_eq_true rfl⟩) hP hD hS [0, 1, 2] [] rfl rfl (by decide) (by decide) [0, 1, 2] (by decide) (fun _ => rfl) (fun u11 H locs hP hD hS => ?_)
          have hP : va_P G.1 vwCl [(h_t, .inr (4, [.ref u11.1, .ref u11.2])), (u11.1, .inl (k_cI G, 36, .inl t10.1)), (u11.2, .inl (k_cI G, 36, .inl t10.2))] H := hP
          have hD : va_D A [(h_t, .inr (4, [.ref u11.1, .ref u11.2])), (u11.1, .inl (k_cI G, 36, .inl t10.1)), (u11.2, .inl (k_cI G, 36, .inl t10.2))] := hD
          exact t_X6_goesOut_107 C0 (fun x5 x6 w_t_counts w_t_spare => f_X6_goesOut_66 n x5 x6 w_t_counts w_t_spare) ih u11.1 u11.2 x5 x6 t10.1 t10.2 _ _ _ hP hD hS (lv_sub hl [1, 2, 3] rfl) hrun
set_option maxHeartbeats 4000000 in
set_option maxRecDepth 100000 in
theorem t_X6_goesOut_23 {l : Launch} {G : k_G} {p : Program} {e : Env} {s : State} {m : MethodId} {args : Array Value} {below : List Frame} {meth : Method} {c : Code} {A : Nat → Prop} {h_t : Nat} {out : Int32 × (Nat → Int32) × (Nat → Int32)} (C0 : k_C G p s m args meth c A cX6_goesOut RX6 wsX6_goesOut 8 (some .boolean) "goesOut") : ∀ (h_t_counts : Nat) (h_t_spare : Nat) (x1 : Int32) (x2 : Int32) (x3 : Int32) (x4 : Int32) (s0 : Int32) (w_t_counts : Nat → Int32) (w_t_spare : Nat → Int32) (H : Heap) (locs : List Loc) (ls : Array Slot), va_P G.1 vwCl [(h_t, .inr (4, [.ref h_t_counts, .ref h_t_spare])), (h_t_counts, .inl (k_cI G, 36, .inl w_t_counts)), (h_t_spare, .inl (k_cI G, 36, .inl w_t_spare))] H → va_D A [(h_t, .inr (4, [.ref h_t_counts, .ref h_t_spare])), (h_t_counts, .inl (k_cI G, 36, .inl w_t_counts)), (h_t_spare, .inl (k_cI G, 36, .inl w_t_spare))] → va_S A s.heap H locs → lv_has ls 8 [(0, .ref h_t), (1, .int x1), (2, .int x2), (3, .int x3), (4, .int x4)] → f_X6_goesOut_23 x1 x2 x3 x4 s0 w_t_counts w_t_spare = some out → W p l e rm_X6_goesOut s m args below meth c H locs 0 0 (MQ below (k_Qi G A out.1 (fun (u : Nat × Nat) => [(h_t, .inr (4, [.ref u.1, .ref u.2])), (u.1, .inl (k_cI G, 36, .inl out.2.1)), (u.2, .inl (k_cI G, 36, .inl out.2.2))])) args s 0 0 A) (F0 m 23 ls [.int s0]) := by
  have hx := C0.1
  have hb := C0.2.1
  have hts := C0.2.2.2.1
  have hown := C0.2.2.2.2.1
  have hK := C0.2.2.2.2.2.2.2.2.1.1
  have hNW := C0.2.2.2.2.2.2.2.2.1.2.1
  have hSF := C0.2.2.2.2.2.2.2.2.1.2.2
  intro h_t_counts h_t_spare x1 x2 x3 x4 s0 w_t_counts w_t_spare H locs ls hP hD hS hl hrun
  rw [f_X6_goesOut_23] at hrun
  refine lv_istore (lv' := [(5, .int s0), (0, .ref h_t), (1, .int x1), (2, .int x2), (3, .int x3), (4, .int x4)]) hx hb dX6_goesOut_23 hl (by decide) rfl (fun ls hl => ?_)
  refine lv_iload hx hb dX6_goesOut_25 (lv_at hl 5 rfl) ?_
  refine lv_iconst (v := 1) hx hb dX6_goesOut_27 (by decide) ?_
  refine lv_icmp_lt (tgt := 44) hx hb dX6_goesOut_28 (by decide) (fun q1 => ?_) (fun q1 => ?_)
  · replace hrun := if_t q1 hrun
    refine lv_iconst (v := 0) hx hb dX6_goesOut_44 (by decide) ?_
    obtain rfl := Option.some.inj hrun
    exact k_retz C0 hP hD hS (h_t_counts, h_t_spare) rfl rfl rfl dX6_goesOut_45
  · replace hrun := if_f q1 hrun
    refine lv_iload hx hb dX6_goesOut_31 (lv_at hl 0 rfl) ?_
    refine lv_iconst (v := 1) hx hb dX6_goesOut_33 (by decide) ?_
    refine lv_icmp_lt (tgt := 44) hx hb dX6_goesOut_34 (by decide) (fun q2 => ?_) (fun q2 => ?_)
    · replace hrun := if_t q2 hrun
      refine lv_iconst (v := 0) hx hb dX6_goesOut_44 (by decide) ?_
      obtain rfl := Option.some.inj hrun
      exact k_retz C0 hP hD hS (h_t_counts, h_t_spare) rfl rfl rfl dX6_goesOut_45
    · replace hrun := if_f q2 hrun
      refine lv_iload hx hb dX6_goesOut_37 (lv_at hl 0 rfl) ?_
      refine lv_bipush (v := 36) hx hb dX6_goesOut_39 (by decide) ?_
      refine lv_icmp_le (tgt := 46) hx hb dX6_goesOut_41 (by decide) (fun q3 => ?_) (fun q3 => ?_)
      · replace hrun := if_t q3 hrun
        refine lv_aload_n hx hb dX6_goesOut_46 rfl (lv_at hl 1 rfl) ?_
        refine lv_iload_n hx hb dX6_goesOut_47 rfl (lv_at hl 2 rfl) ?_
        refine lv_iload_n hx hb dX6_goesOut_48 rfl (lv_at hl 3 rfl) ?_
        refine lv_iload hx hb dX6_goesOut_49 (lv_at hl 5 rfl) ?_
        refine lv_iload hx hb dX6_goesOut_51 (lv_at hl 0 rfl) ?_
        refine lv_iload hx hb dX6_goesOut_53 (lv_at hl 5 rfl) ?_
        obtain ⟨gz4, hrun⟩ := gd_inv hrun
        refine lv_idiv hx hb dX6_goesOut_55 gz4 ?_
        refine lv_iload_n hx hb dX6_goesOut_56 rfl (lv_at hl 4 rfl) ?_
        refine lv_imul hx hb dX6_goesOut_57 ?_
        refine lv_iload hx hb dX6_goesOut_58 (lv_at hl 0 rfl) ?_
        obtain ⟨t5, et5, hrun⟩ := bd_inv hrun
        refine k_callv (w2 := fun (_ : Unit) => [(h_t, .inr (4, [.ref h_t_counts, .ref h_t_spare])), (h_t_counts, .inl (k_cI G, 36, .inl t5)), (h_t_spare, .inl (k_cI G, 36, .inl w_t_spare))]) C0 (k_runV (rest := []) C0 (c_X6_countPoints et5) (cwV 5 hts gX6_goesOut_X6_countPoints rfl rfl rfl e_X6_countPoints ⟨Nat.le_of_ble_eq_true rfl, Nat.le_of_ble_eq_true rfl⟩) hP hD hS [0, 1] rfl (by decide) 0 (qc := (RX6, TX6, 2)) rfl rfl rfl rfl hl.1 rfl (Nat.le_of_ble_eq_true rfl) dX6_goesOut_60 ⟨Nat.le_of_ble_eq_true rfl, Nat.le_of_ble_eq_true rfl⟩) hP hD hS [0, 1] [2] rfl rfl (by decide) (by decide) [1, 2, 0] (by decide) (fun _ => rfl) (fun _ H locs hP hD hS => ?_)
        have hP : va_P G.1 vwCl [(h_t, .inr (4, [.ref h_t_counts, .ref h_t_spare])), (h_t_counts, .inl (k_cI G, 36, .inl t5)), (h_t_spare, .inl (k_cI G, 36, .inl w_t_spare))] H := hP
        have hD : va_D A [(h_t, .inr (4, [.ref h_t_counts, .ref h_t_spare])), (h_t_counts, .inl (k_cI G, 36, .inl t5)), (h_t_spare, .inl (k_cI G, 36, .inl w_t_spare))] := hD
        refine lv_iconst (v := 0) hx hb dX6_goesOut_63 (by decide) ?_
        refine lv_istore (lv' := [(6, .int (0 : Int32)), (5, .int s0), (0, .ref h_t), (1, .int x1), (2, .int x2), (3, .int x3), (4, .int x4)]) hx hb dX6_goesOut_64 hl (by decide) rfl (fun ls hl => ?_)
        exact t_X6_goesOut_66 C0 kFU h_t_counts h_t_spare s0 (0 : Int32) t5 w_t_spare _ _ _ hP hD hS (lv_sub hl [2, 1, 0] rfl) hrun
      · replace hrun := if_f q3 hrun
        refine lv_iconst (v := 0) hx hb dX6_goesOut_44 (by decide) ?_
        obtain rfl := Option.some.inj hrun
        exact k_retz C0 hP hD hS (h_t_counts, h_t_spare) rfl rfl rfl dX6_goesOut_45
set_option maxHeartbeats 4000000 in
set_option maxRecDepth 100000 in
theorem c_X6_goesOut {l : Launch} {G : k_G} {h_t h_t_counts h_t_spare : Nat} {sz : Nat} {p1 : Int32} {p2 : Int32} {p3 : Int32} {w_t_counts : Nat → Int32} {w_t_spare : Nat → Int32} {out : Int32 × (Nat → Int32) × (Nat → Int32)} (hrun : f_X6_goesOut p1 p2 p3 w_t_counts w_t_spare = some out) : k_Ci l G yX6_goesOut wsX6_goesOut rm_X6_goesOut [.ref h_t, .int p1, .int p2, .int p3] [(h_t, .inr (4, [.ref h_t_counts, .ref h_t_spare])), (h_t_counts, .inl (k_cI G, 36, .inl w_t_counts)), (h_t_spare, .inl (k_cI G, 36, .inl w_t_spare))] sz out.1 (fun (u : Nat × Nat) => [(h_t, .inr (4, [.ref u.1, .ref u.2])), (u.1, .inl (k_cI G, 36, .inl out.2.1)), (u.2, .inl (k_cI G, 36, .inl out.2.2))]) 0 0 := by
  refine k_of (cc := cX6_goesOut) (nL := 8) (ret := some .boolean) (own := RX6) (nm := "goesOut") (by decide) rfl rfl rfl rfl ?_
  intro p e s m args below meth c ls hsz C0 hP hD hS hl
  have hl : lv_has ls 8 [(0, .ref h_t), (1, .int p1), (2, .int p2), (3, .int p3)] := hl
  generalize hH : s.heap = H at hP
  have hS : va_S (va_A [(h_t, .inr (4, [.ref h_t_counts, .ref h_t_spare])), (h_t_counts, .inl (k_cI G, 36, .inl w_t_counts)), (h_t_spare, .inl (k_cI G, 36, .inl w_t_spare))] sz) s.heap H [] := by rw [← hH]; exact hS
  clear hH
  generalize va_A [(h_t, .inr (4, [.ref h_t_counts, .ref h_t_spare])), (h_t_counts, .inl (k_cI G, 36, .inl w_t_counts)), (h_t_spare, .inl (k_cI G, 36, .inl w_t_spare))] sz = A at C0 hD hS ⊢
  have hx := C0.1
  have hb := C0.2.1
  have hts := C0.2.2.2.1
  have hown := C0.2.2.2.2.1
  have hK := C0.2.2.2.2.2.2.2.2.1.1
  have hNW := C0.2.2.2.2.2.2.2.2.1.2.1
  have hSF := C0.2.2.2.2.2.2.2.2.1.2.2
  rw [f_X6_goesOut] at hrun
  refine lv_iload_n hx hb dX6_goesOut_0 rfl (lv_at hl 1 rfl) ?_
  refine lv_iload_n hx hb dX6_goesOut_1 rfl (lv_at hl 2 rfl) ?_
  obtain ⟨t1, et1, hrun⟩ := bd_inv hrun
  refine k_calli0 C0 (k_runS (rest := []) C0 (c_X8_repeatsAfter et1) (va_cwS 2 hts gX6_goesOut_X8_repeatsAfter rfl rfl rfl e_X8_repeatsAfter.2 ⟨Nat.le_of_ble_eq_true rfl, Nat.le_of_ble_eq_true rfl⟩) hP hD hS [] rfl (by decide) rfl hl.1 rfl (Nat.le_of_ble_eq_true rfl) dX6_goesOut_2 ⟨Nat.le_of_ble_eq_true rfl, Nat.le_of_ble_eq_true rfl⟩) hP hS (fun H locs hP hS => ?_)
  refine lv_istore (lv' := [(4, .int t1), (0, .ref h_t), (1, .int p1), (2, .int p2), (3, .int p3)]) hx hb dX6_goesOut_5 hl (by decide) rfl (fun ls hl => ?_)
  refine lv_iload hx hb dX6_goesOut_7 (lv_at hl 0 rfl) ?_
  refine lv_iconst (v := 3) hx hb dX6_goesOut_9 (by decide) ?_
  refine lv_irem hx hb dX6_goesOut_10 (by decide) ?_
  refine lv_if_ne (tgt := 19) hx hb dX6_goesOut_11 (by decide) (fun q2 => ?_) (fun q2 => ?_)
  · replace hrun := if_f q2 hrun
    refine lv_iconst (v := 3) hx hb dX6_goesOut_19 (by decide) ?_
    refine lv_iload hx hb dX6_goesOut_20 (lv_at hl 0 rfl) ?_
    refine lv_imul hx hb dX6_goesOut_22 ?_
    exact t_X6_goesOut_23 C0 h_t_counts h_t_spare p1 p2 p3 t1 ((3 : Int32) * t1) w_t_counts w_t_spare _ _ _ hP hD hS (lv_sub hl [1, 2, 3, 4, 0] rfl) hrun
  · replace hrun := if_t q2 hrun
    refine lv_iload hx hb dX6_goesOut_14 (lv_at hl 0 rfl) ?_
    refine lv_goto (tgt := 23) hx hb dX6_goesOut_16 (by decide) ?_
    exact t_X6_goesOut_23 C0 h_t_counts h_t_spare p1 p2 p3 t1 t1 w_t_counts w_t_spare _ _ _ hP hD hS (lv_sub hl [1, 2, 3, 4, 0] rfl) hrun
