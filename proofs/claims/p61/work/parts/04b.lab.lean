def f_X4_init : Option (Unit) :=
  bd (f_X9_init) fun t1 =>
  some ()
def f_X4_clear (v_t_agreedCount : Int32) (v_t_complete : Int32) (v_t_unsureCount : Int32) (v_t_stacks_count : Int32) : Option (Int32 × Int32 × Int32 × Int32) :=
  some ((0 : Int32), (0 : Int32), (0 : Int32), (0 : Int32))
def f_X4_stackNamed_2 : Nat → Int64 → Int32 → Int32 → (Nat → Int64) → Option (Int32)
  | 0, _, _, _, _ => none
  | n + 1, x1, x3, v_t_stacks_count, w_t_names =>
    if v_t_stacks_count ≤ x3 then
      some ((-1 : Int32))
    else
      (if (5 : Int32) ≤ x3 then
         some ((-1 : Int32))
       else
         (gd (inR x3 5) <|
          if (lg_cmp (w_t_names x3.toNatClampNeg) x1) = 0 then
            some (x3)
          else
            f_X4_stackNamed_2 n x1 (x3 + 1) v_t_stacks_count w_t_names))
def f_X4_stackNamed (p1 : Int64) (v_t_stacks_count : Int32) (w_t_names : Nat → Int64) : Option (Int32) :=
  f_X4_stackNamed_2 kFU p1 (0 : Int32) v_t_stacks_count w_t_names
def f_X4_addStack (p1 : Int64) (p3 : Int32) (p4 : Int32) (v_t_stacks_count : Int32) (w_t_names : Nat → Int64) (w_t_stacks_lengths : Nat → Int32) (w_t_stacks_rows : Nat → Int32) : Option (Int32 × (Nat → Int64) × (Nat → Int32) × (Nat → Int32)) :=
  if v_t_stacks_count < 0 then
    some (v_t_stacks_count, w_t_names, w_t_stacks_lengths, w_t_stacks_rows)
  else
    (if (5 : Int32) ≤ v_t_stacks_count then
       some (v_t_stacks_count, w_t_names, w_t_stacks_lengths, w_t_stacks_rows)
     else
       (gd (inR v_t_stacks_count 5) <|
        lt (vp_updL w_t_names v_t_stacks_count.toNatClampNeg p1) fun w4 =>
        bd (f_X9_put v_t_stacks_count p3 p4 w_t_stacks_lengths w_t_stacks_rows) fun t5 =>
        lt (v_t_stacks_count + (1 : Int32)) fun n6 =>
        some (n6, w4, t5.1, t5.2)))
def f_X4_isUnsure_36 (k2 : Int32 → Int32 → Int32 → Int32 → (Nat → Int32) → (Nat → Int32) → Option (Int32)) (x1 : Int32) (x2 : Int32) (x3 : Int32) (v_t_unsureCount : Int32) (w_t_unsurePlaces : Nat → Int32) (w_t_unsureStacks : Nat → Int32) : Option (Int32) :=
  k2 x1 x2 (x3 + 1) v_t_unsureCount w_t_unsurePlaces w_t_unsureStacks
def f_X4_isUnsure_2 : Nat → Int32 → Int32 → Int32 → Int32 → (Nat → Int32) → (Nat → Int32) → Option (Int32)
  | 0, _, _, _, _, _, _ => none
  | n + 1, x1, x2, x3, v_t_unsureCount, w_t_unsurePlaces, w_t_unsureStacks =>
    if v_t_unsureCount ≤ x3 then
      some ((0 : Int32))
    else
      (bd (f_X11_at 4 x3 w_t_unsureStacks) fun t2 =>
       if t2 = x1 then
         (bd (f_X11_at 4 x3 w_t_unsurePlaces) fun t4 =>
          if t4 = x2 then
            some ((1 : Int32))
          else
            f_X4_isUnsure_36 (fun x1 x2 x3 v_t_unsureCount w_t_unsurePlaces w_t_unsureStacks => f_X4_isUnsure_2 n x1 x2 x3 v_t_unsureCount w_t_unsurePlaces w_t_unsureStacks) x1 x2 x3 v_t_unsureCount w_t_unsurePlaces w_t_unsureStacks)
       else
         f_X4_isUnsure_36 (fun x1 x2 x3 v_t_unsureCount w_t_unsurePlaces w_t_unsureStacks => f_X4_isUnsure_2 n x1 x2 x3 v_t_unsureCount w_t_unsurePlaces w_t_unsureStacks) x1 x2 x3 v_t_unsureCount w_t_unsurePlaces w_t_unsureStacks)
def f_X4_isUnsure (p1 : Int32) (p2 : Int32) (v_t_unsureCount : Int32) (w_t_unsurePlaces : Nat → Int32) (w_t_unsureStacks : Nat → Int32) : Option (Int32) :=
  f_X4_isUnsure_2 kFU p1 p2 (0 : Int32) v_t_unsureCount w_t_unsurePlaces w_t_unsureStacks
def f_X4_addUnsure (p1 : Int32) (p2 : Int32) (v_t_unsureCount : Int32) (w_t_unsurePlaces : Nat → Int32) (w_t_unsureStacks : Nat → Int32) : Option (Int32 × (Nat → Int32) × (Nat → Int32)) :=
  bd (f_X11_set 4 v_t_unsureCount p1 w_t_unsureStacks) fun t1 =>
  bd (f_X11_set 4 v_t_unsureCount p2 w_t_unsurePlaces) fun t2 =>
  lt (v_t_unsureCount + (1 : Int32)) fun n3 =>
  some (n3, t2, t1)
def f_X4_isAgreed_36 (k2 : Int32 → Int32 → Int32 → Int32 → (Nat → Int32) → (Nat → Int32) → Option (Int32)) (x1 : Int32) (x2 : Int32) (x3 : Int32) (v_t_agreedCount : Int32) (w_t_agreedDistances : Nat → Int32) (w_t_agreedStacks : Nat → Int32) : Option (Int32) :=
  k2 x1 x2 (x3 + 1) v_t_agreedCount w_t_agreedDistances w_t_agreedStacks
def f_X4_isAgreed_2 : Nat → Int32 → Int32 → Int32 → Int32 → (Nat → Int32) → (Nat → Int32) → Option (Int32)
  | 0, _, _, _, _, _, _ => none
  | n + 1, x1, x2, x3, v_t_agreedCount, w_t_agreedDistances, w_t_agreedStacks =>
    if v_t_agreedCount ≤ x3 then
      some ((0 : Int32))
    else
      (bd (f_X11_at 6 x3 w_t_agreedStacks) fun t2 =>
       if t2 = x1 then
         (bd (f_X11_at 6 x3 w_t_agreedDistances) fun t4 =>
          if t4 = x2 then
            some ((1 : Int32))
          else
            f_X4_isAgreed_36 (fun x1 x2 x3 v_t_agreedCount w_t_agreedDistances w_t_agreedStacks => f_X4_isAgreed_2 n x1 x2 x3 v_t_agreedCount w_t_agreedDistances w_t_agreedStacks) x1 x2 x3 v_t_agreedCount w_t_agreedDistances w_t_agreedStacks)
       else
         f_X4_isAgreed_36 (fun x1 x2 x3 v_t_agreedCount w_t_agreedDistances w_t_agreedStacks => f_X4_isAgreed_2 n x1 x2 x3 v_t_agreedCount w_t_agreedDistances w_t_agreedStacks) x1 x2 x3 v_t_agreedCount w_t_agreedDistances w_t_agreedStacks)
def f_X4_isAgreed (p1 : Int32) (p2 : Int32) (v_t_agreedCount : Int32) (w_t_agreedDistances : Nat → Int32) (w_t_agreedStacks : Nat → Int32) : Option (Int32) :=
  f_X4_isAgreed_2 kFU p1 p2 (0 : Int32) v_t_agreedCount w_t_agreedDistances w_t_agreedStacks
def f_X4_addAgreed (p1 : Int32) (p2 : Int32) (p3 : Int32) (v_t_agreedCount : Int32) (w_t_agreedDistances : Nat → Int32) (w_t_agreedLayers : Nat → Int32) (w_t_agreedStacks : Nat → Int32) : Option (Int32 × (Nat → Int32) × (Nat → Int32) × (Nat → Int32)) :=
  bd (f_X11_set 6 v_t_agreedCount p1 w_t_agreedStacks) fun t1 =>
  bd (f_X11_set 6 v_t_agreedCount p2 w_t_agreedDistances) fun t2 =>
  bd (f_X11_set 6 v_t_agreedCount p3 w_t_agreedLayers) fun t3 =>
  lt (v_t_agreedCount + (1 : Int32)) fun n4 =>
  some (n4, t2, t3, t1)
def f_X4_products (p0 : Int32) (p1 : Int32) (p2 : Int32) : Option (Int32) :=
  bd (f_J6_bitCount_0f7a4 (p0 ^^^ p1)) fun t1 =>
  some (p2 - ((2 : Int32) * t1))
def f_X4_energyOf (p1 : Int32) (p2 : Int32) (v_t_near : Int32) (v_t_second : Int32) (v_t_third : Int32) : Option (Int32) :=
  bd (f_X8_turned p1 p2) fun t1 =>
  bd (f_X8_turned t1 p2) fun t2 =>
  bd (f_X8_turned t2 p2) fun t3 =>
  bd (f_X4_products p1 t1 p2) fun t4 =>
  bd (f_X4_products p1 t2 p2) fun t5 =>
  bd (f_X4_products p1 t3 p2) fun t6 =>
  some ((((-v_t_near) * t4) - (v_t_second * t5)) - (v_t_third * t6))
def f_X4_weakestStep_42 (k5 : Int32 → Int32 → Int32 → Int32 → Int32 → Int32 → Int32 → Option (Int32)) (x1 : Int32) (x2 : Int32) (x3 : Int32) (x4 : Int32) (v_t_near : Int32) (v_t_second : Int32) (v_t_third : Int32) : Option (Int32) :=
  k5 x1 x2 x3 (x4 + 1) v_t_near v_t_second v_t_third
def f_X4_weakestStep_5 : Nat → Int32 → Int32 → Int32 → Int32 → Int32 → Int32 → Int32 → Option (Int32)
  | 0, _, _, _, _, _, _, _ => none
  | n + 1, x1, x2, x3, x4, v_t_near, v_t_second, v_t_third =>
    if x2 ≤ x4 then
      some (x3)
    else
      (bd (f_X8_bit x2 x4) fun t2 =>
       bd (f_X4_energyOf (x1 ^^^ t2) x2 v_t_near v_t_second v_t_third) fun t3 =>
       bd (f_X8_bit x2 x3) fun t4 =>
       bd (f_X4_energyOf (x1 ^^^ t4) x2 v_t_near v_t_second v_t_third) fun t5 =>
       if t5 ≤ t3 then
         f_X4_weakestStep_42 (fun x1 x2 x3 x4 v_t_near v_t_second v_t_third => f_X4_weakestStep_5 n x1 x2 x3 x4 v_t_near v_t_second v_t_third) x1 x2 x3 x4 v_t_near v_t_second v_t_third
       else
         f_X4_weakestStep_42 (fun x1 x2 x3 x4 v_t_near v_t_second v_t_third => f_X4_weakestStep_5 n x1 x2 x3 x4 v_t_near v_t_second v_t_third) x1 x2 x4 x4 v_t_near v_t_second v_t_third)
def f_X4_weakestStep (p1 : Int32) (p2 : Int32) (v_t_near : Int32) (v_t_second : Int32) (v_t_third : Int32) : Option (Int32) :=
  f_X4_weakestStep_5 kFU p1 p2 (0 : Int32) (1 : Int32) v_t_near v_t_second v_t_third
def f_X5_init : Option (Unit) :=
  some ()
def f_X5_survey_14 : Nat → Int32 → Int32 → Int32 → Int32 → Int32 → Int32 → Int32 → (Nat → Int32) → Option (Int32 × Int32 × (Nat → Int32))
  | 0, _, _, _, _, _, _, _, _ => none
  | n + 1, x2, x3, v_a1_near, v_a1_second, v_a1_third, v_t_rows, v_t_steps, w_t_energies =>
    if v_t_rows ≤ x3 then
      some (v_t_rows, v_t_steps, w_t_energies)
    else
      (bd (f_X4_energyOf x3 x2 v_a1_near v_a1_second v_a1_third) fun t2 =>
       bd (f_X11_set 4096 x3 t2 w_t_energies) fun t3 =>
       f_X5_survey_14 n x2 (x3 + 1) v_a1_near v_a1_second v_a1_third v_t_rows v_t_steps t3)
def f_X5_survey (p2 : Int32) (v_a1_near : Int32) (v_a1_second : Int32) (v_a1_third : Int32) (v_t_rows : Int32) (v_t_steps : Int32) (w_t_energies : Nat → Int32) : Option (Int32 × Int32 × (Nat → Int32)) :=
  lt ((1 : Int32) <<< (p2 &&& 31)) fun n1 =>
  f_X5_survey_14 kFU p2 (0 : Int32) v_a1_near v_a1_second v_a1_third n1 p2 w_t_energies
def f_X5_lowest_11 : Nat → Int32 → Int32 → Int32 → (Nat → Int32) → Option (Int32)
  | 0, _, _, _, _ => none
  | n + 1, x1, x2, v_t_rows, w_t_energies =>
    if v_t_rows ≤ x2 then
      some (x1)
    else
      (bd (f_X11_at 4096 x2 w_t_energies) fun t2 =>
       lt (if t2 < x1 then t2 else x1) fun n3 =>
       f_X5_lowest_11 n n3 (x2 + 1) v_t_rows w_t_energies)
def f_X5_lowest (v_t_rows : Int32) (w_t_energies : Nat → Int32) : Option (Int32) :=
  bd (f_X11_at 4096 (0 : Int32) w_t_energies) fun t1 =>
  f_X5_lowest_11 kFU t1 (1 : Int32) v_t_rows w_t_energies
def f_X5_lowestRow_33 (k4 : Int32 → Int32 → Int32 → (Nat → Int32) → Option (Int32)) (x1 : Int32) (x2 : Int32) (v_t_rows : Int32) (w_t_energies : Nat → Int32) : Option (Int32) :=
  k4 x1 (x2 + 1) v_t_rows w_t_energies
def f_X5_lowestRow_4 : Nat → Int32 → Int32 → Int32 → (Nat → Int32) → Option (Int32)
  | 0, _, _, _, _ => none
  | n + 1, x1, x2, v_t_rows, w_t_energies =>
    if v_t_rows ≤ x2 then
      some (x1)
    else
      (bd (f_X11_at 4096 x2 w_t_energies) fun t2 =>
       bd (f_X11_at 4096 x1 w_t_energies) fun t3 =>
       if t3 ≤ t2 then
         f_X5_lowestRow_33 (fun x1 x2 v_t_rows w_t_energies => f_X5_lowestRow_4 n x1 x2 v_t_rows w_t_energies) x1 x2 v_t_rows w_t_energies
       else
         f_X5_lowestRow_33 (fun x1 x2 v_t_rows w_t_energies => f_X5_lowestRow_4 n x1 x2 v_t_rows w_t_energies) x2 x2 v_t_rows w_t_energies)
def f_X5_lowestRow (v_t_rows : Int32) (w_t_energies : Nat → Int32) : Option (Int32) :=
  f_X5_lowestRow_4 kFU (0 : Int32) (1 : Int32) v_t_rows w_t_energies
def f_X5_lowestMany_35 (k9 : Int32 → Int32 → Int32 → Int32 → (Nat → Int32) → Option (Int32)) (x1 : Int32) (x3 : Int32) (s0 : Int32) (s1 : Int32) (v_t_rows : Int32) (w_t_energies : Nat → Int32) : Option (Int32) :=
  lt (s0 + s1) fun n1 =>
  k9 x1 n1 (x3 + 1) v_t_rows w_t_energies
def f_X5_lowestMany_9 : Nat → Int32 → Int32 → Int32 → Int32 → (Nat → Int32) → Option (Int32)
  | 0, _, _, _, _, _ => none
  | n + 1, x1, x2, x3, v_t_rows, w_t_energies =>
    if v_t_rows ≤ x3 then
      some (x2)
    else
      (bd (f_X11_at 4096 x3 w_t_energies) fun t2 =>
       if t2 = x1 then
         f_X5_lowestMany_35 (fun x1 x2 x3 v_t_rows w_t_energies => f_X5_lowestMany_9 n x1 x2 x3 v_t_rows w_t_energies) x1 x3 x2 (1 : Int32) v_t_rows w_t_energies
       else
         f_X5_lowestMany_35 (fun x1 x2 x3 v_t_rows w_t_energies => f_X5_lowestMany_9 n x1 x2 x3 v_t_rows w_t_energies) x1 x3 x2 (0 : Int32) v_t_rows w_t_energies)
def f_X5_lowestMany (v_t_rows : Int32) (w_t_energies : Nat → Int32) : Option (Int32) :=
  bd (f_X5_lowest v_t_rows w_t_energies) fun t1 =>
  f_X5_lowestMany_9 kFU t1 (0 : Int32) (0 : Int32) v_t_rows w_t_energies
def f_X5_reach (p1 : Int32) (v_t_queued : Int32) (w_t_queue : Nat → Int32) (w_t_reached : Nat → Int32) : Option (Int32 × (Nat → Int32) × (Nat → Int32)) :=
  if p1 < 0 then
    some (v_t_queued, w_t_queue, w_t_reached)
  else
    (if (4096 : Int32) ≤ p1 then
       some (v_t_queued, w_t_queue, w_t_reached)
     else
       (gd (inR p1 4096) <|
        if (w_t_reached p1.toNatClampNeg) = 0 then
          (gd (inR p1 4096) <|
           lt (upd w_t_reached p1.toNatClampNeg (vp_nar .boolean (1 : Int32))) fun w6 =>
           bd (f_X11_set 4096 v_t_queued p1 w_t_queue) fun t7 =>
           lt (v_t_queued + (1 : Int32)) fun n8 =>
           some (n8, t7, w6))
        else
          some (v_t_queued, w_t_queue, w_t_reached)))
def f_X5_flood_126 (k42 : Int32 → Int32 → Int32 → Int32 → Int32 → (Nat → Int32) → (Nat → Int32) → (Nat → Int32) → Option (Int32 × Int32 × Int32 × (Nat → Int32) × (Nat → Int32))) (k60 : Int32 → Int32 → Int32 → Int32 → Int32 → Int32 → (Nat → Int32) → (Nat → Int32) → (Nat → Int32) → Option (Int32 × Int32 × Int32 × (Nat → Int32) × (Nat → Int32))) (x2 : Int32) (x3 : Int32) (x4 : Int32) (v_t_leastAbove : Int32) (v_t_queued : Int32) (v_t_steps : Int32) (w_t_energies : Nat → Int32) (w_t_queue : Nat → Int32) (w_t_reached : Nat → Int32) : Option (Int32 × Int32 × Int32 × (Nat → Int32) × (Nat → Int32)) :=
  k60 x2 x3 (x4 + 1) v_t_leastAbove v_t_queued v_t_steps w_t_energies w_t_queue w_t_reached
def f_X5_flood_60 (k42 : Int32 → Int32 → Int32 → Int32 → Int32 → (Nat → Int32) → (Nat → Int32) → (Nat → Int32) → Option (Int32 × Int32 × Int32 × (Nat → Int32) × (Nat → Int32))) : Nat → Int32 → Int32 → Int32 → Int32 → Int32 → Int32 → (Nat → Int32) → (Nat → Int32) → (Nat → Int32) → Option (Int32 × Int32 × Int32 × (Nat → Int32) × (Nat → Int32))
  | 0, _, _, _, _, _, _, _, _, _ => none
  | n + 1, x2, x3, x4, v_t_leastAbove, v_t_queued, v_t_steps, w_t_energies, w_t_queue, w_t_reached =>
    if v_t_steps ≤ x4 then
      (k42 x2 (x3 + 1) v_t_leastAbove v_t_queued v_t_steps w_t_energies w_t_queue w_t_reached)
    else
      (bd (f_X11_at 4096 x3 w_t_queue) fun t2 =>
       lt (t2 ^^^ ((1 : Int32) <<< (x4 &&& 31))) fun n3 =>
       bd (f_X11_at 4096 n3 w_t_energies) fun t4 =>
       if x2 < t4 then
         (bd (f_X11_at 4096 n3 w_t_energies) fun t6 =>
          lt (if t6 < v_t_leastAbove then t6 else v_t_leastAbove) fun n7 =>
          f_X5_flood_126 k42 (fun x2 x3 x4 v_t_leastAbove v_t_queued v_t_steps w_t_energies w_t_queue w_t_reached => f_X5_flood_60 k42 n x2 x3 x4 v_t_leastAbove v_t_queued v_t_steps w_t_energies w_t_queue w_t_reached) x2 x3 x4 n7 v_t_queued v_t_steps w_t_energies w_t_queue w_t_reached)
       else
         (bd (f_X5_reach n3 v_t_queued w_t_queue w_t_reached) fun t8 =>
          f_X5_flood_126 k42 (fun x2 x3 x4 v_t_leastAbove v_t_queued v_t_steps w_t_energies w_t_queue w_t_reached => f_X5_flood_60 k42 n x2 x3 x4 v_t_leastAbove v_t_queued v_t_steps w_t_energies w_t_queue w_t_reached) x2 x3 x4 v_t_leastAbove t8.1 v_t_steps w_t_energies t8.2.1 t8.2.2))
def f_X5_flood_42 : Nat → Int32 → Int32 → Int32 → Int32 → Int32 → (Nat → Int32) → (Nat → Int32) → (Nat → Int32) → Option (Int32 × Int32 × Int32 × (Nat → Int32) × (Nat → Int32))
  | 0, _, _, _, _, _, _, _, _ => none
  | n + 1, x2, x3, v_t_leastAbove, v_t_queued, v_t_steps, w_t_energies, w_t_queue, w_t_reached =>
    if v_t_queued ≤ x3 then
      some (v_t_queued, v_t_leastAbove, v_t_queued, w_t_queue, w_t_reached)
    else
      (if (4096 : Int32) ≤ x3 then
         some (v_t_queued, v_t_leastAbove, v_t_queued, w_t_queue, w_t_reached)
       else
         f_X5_flood_60 (fun x2 x3 v_t_leastAbove v_t_queued v_t_steps w_t_energies w_t_queue w_t_reached => f_X5_flood_42 n x2 x3 v_t_leastAbove v_t_queued v_t_steps w_t_energies w_t_queue w_t_reached) kFU x2 x3 (0 : Int32) v_t_leastAbove v_t_queued v_t_steps w_t_energies w_t_queue w_t_reached)
def f_X5_flood_2 : Nat → Int32 → Int32 → Int32 → Int32 → Int32 → Int32 → (Nat → Int32) → (Nat → Int32) → (Nat → Int32) → Option (Int32 × Int32 × Int32 × (Nat → Int32) × (Nat → Int32))
  | 0, _, _, _, _, _, _, _, _, _ => none
  | n + 1, x1, x2, x3, v_t_leastAbove, v_t_queued, v_t_steps, w_t_energies, w_t_queue, w_t_reached =>
    if (4096 : Int32) ≤ x3 then
      (bd (f_X5_reach x1 (0 : Int32) w_t_queue w_t_reached) fun t2 =>
       f_X5_flood_42 kFU x2 (0 : Int32) (1000000 : Int32) t2.1 v_t_steps w_t_energies t2.2.1 t2.2.2)
    else
      (gd (inR x3 4096) <|
       lt (upd w_t_reached x3.toNatClampNeg (vp_nar .boolean (0 : Int32))) fun w4 =>
       f_X5_flood_2 n x1 x2 (x3 + 1) v_t_leastAbove v_t_queued v_t_steps w_t_energies w_t_queue w4)
def f_X5_flood (p1 : Int32) (p2 : Int32) (v_t_leastAbove : Int32) (v_t_queued : Int32) (v_t_steps : Int32) (w_t_energies : Nat → Int32) (w_t_queue : Nat → Int32) (w_t_reached : Nat → Int32) : Option (Int32 × Int32 × Int32 × (Nat → Int32) × (Nat → Int32)) :=
  f_X5_flood_2 kFU p1 p2 (0 : Int32) v_t_leastAbove v_t_queued v_t_steps w_t_energies w_t_queue w_t_reached
def f_X5_lowestPass_62 (k23 : Int32 → Int32 → Int32 → Int32 → Int32 → Int32 → Int32 → (Nat → Int32) → (Nat → Int32) → (Nat → Int32) → Option (Int32 × Int32 × Int32 × (Nat → Int32) × (Nat → Int32))) (x1 : Int32) (x2 : Int32) (x4 : Int32) (v_t_leastAbove : Int32) (v_t_queued : Int32) (v_t_steps : Int32) (w_t_energies : Nat → Int32) (w_t_queue : Nat → Int32) (w_t_reached : Nat → Int32) : Option (Int32 × Int32 × Int32 × (Nat → Int32) × (Nat → Int32)) :=
  k23 x1 x2 v_t_leastAbove (x4 + 1) v_t_leastAbove v_t_queued v_t_steps w_t_energies w_t_queue w_t_reached
def f_X5_lowestPass_23 : Nat → Int32 → Int32 → Int32 → Int32 → Int32 → Int32 → Int32 → (Nat → Int32) → (Nat → Int32) → (Nat → Int32) → Option (Int32 × Int32 × Int32 × (Nat → Int32) × (Nat → Int32))
  | 0, _, _, _, _, _, _, _, _, _, _ => none
  | n + 1, x1, x2, x3, x4, v_t_leastAbove, v_t_queued, v_t_steps, w_t_energies, w_t_queue, w_t_reached =>
    if (4096 : Int32) ≤ x4 then
      some (x3, v_t_leastAbove, v_t_queued, w_t_queue, w_t_reached)
    else
      (bd (f_X5_flood x1 x3 v_t_leastAbove v_t_queued v_t_steps w_t_energies w_t_queue w_t_reached) fun t2 =>
       if x2 < 0 then
         f_X5_lowestPass_62 (fun x1 x2 x3 x4 v_t_leastAbove v_t_queued v_t_steps w_t_energies w_t_queue w_t_reached => f_X5_lowestPass_23 n x1 x2 x3 x4 v_t_leastAbove v_t_queued v_t_steps w_t_energies w_t_queue w_t_reached) x1 x2 x4 t2.2.1 t2.2.2.1 v_t_steps w_t_energies t2.2.2.2.1 t2.2.2.2.2
       else
         (if (4096 : Int32) ≤ x2 then
            f_X5_lowestPass_62 (fun x1 x2 x3 x4 v_t_leastAbove v_t_queued v_t_steps w_t_energies w_t_queue w_t_reached => f_X5_lowestPass_23 n x1 x2 x3 x4 v_t_leastAbove v_t_queued v_t_steps w_t_energies w_t_queue w_t_reached) x1 x2 x4 t2.2.1 t2.2.2.1 v_t_steps w_t_energies t2.2.2.2.1 t2.2.2.2.2
          else
            (gd (inR x2 4096) <|
             if (t2.2.2.2.2 x2.toNatClampNeg) = 0 then
               f_X5_lowestPass_62 (fun x1 x2 x3 x4 v_t_leastAbove v_t_queued v_t_steps w_t_energies w_t_queue w_t_reached => f_X5_lowestPass_23 n x1 x2 x3 x4 v_t_leastAbove v_t_queued v_t_steps w_t_energies w_t_queue w_t_reached) x1 x2 x4 t2.2.1 t2.2.2.1 v_t_steps w_t_energies t2.2.2.2.1 t2.2.2.2.2
             else
               some (x3, t2.2.1, t2.2.2.1, t2.2.2.2.1, t2.2.2.2.2))))
def f_X5_lowestPass (p1 : Int32) (p2 : Int32) (v_t_leastAbove : Int32) (v_t_queued : Int32) (v_t_steps : Int32) (w_t_energies : Nat → Int32) (w_t_queue : Nat → Int32) (w_t_reached : Nat → Int32) : Option (Int32 × Int32 × Int32 × (Nat → Int32) × (Nat → Int32)) :=
  bd (f_X11_at 4096 p1 w_t_energies) fun t1 =>
  bd (f_X11_at 4096 p2 w_t_energies) fun t2 =>
  lt (if t1 < t2 then t2 else t1) fun n3 =>
  f_X5_lowestPass_23 kFU p1 p2 n3 (0 : Int32) v_t_leastAbove v_t_queued v_t_steps w_t_energies w_t_queue w_t_reached
def f_X5_settle_13 : Nat → Int32 → Int32 → Int32 → Int32 → Int32 → Int32 → Int32 → Option (Int32 × Int32)
  | 0, _, _, _, _, _, _, _ => none
  | n + 1, x3, x4, v_a1_near, v_a1_second, v_a1_third, v_t_rowAtRest, v_t_slipsToRest =>
    if (4096 : Int32) ≤ x4 then
      some (v_t_rowAtRest, v_t_slipsToRest)
    else
      (bd (f_X4_weakestStep v_t_rowAtRest x3 v_a1_near v_a1_second v_a1_third) fun t2 =>
       bd (f_X8_bit x3 t2) fun t3 =>
       lt (v_t_rowAtRest ^^^ t3) fun n4 =>
       bd (f_X4_energyOf n4 x3 v_a1_near v_a1_second v_a1_third) fun t5 =>
       bd (f_X4_energyOf v_t_rowAtRest x3 v_a1_near v_a1_second v_a1_third) fun t6 =>
       if t5 < t6 then
         (lt (v_t_slipsToRest + (1 : Int32)) fun n8 =>
          f_X5_settle_13 n x3 (x4 + 1) v_a1_near v_a1_second v_a1_third n4 n8)
       else
         some (v_t_rowAtRest, v_t_slipsToRest))
def f_X5_settle (p2 : Int32) (p3 : Int32) (v_a1_near : Int32) (v_a1_second : Int32) (v_a1_third : Int32) (v_t_rowAtRest : Int32) (v_t_slipsToRest : Int32) : Option (Int32 × Int32) :=
  f_X5_settle_13 kFU p3 (0 : Int32) v_a1_near v_a1_second v_a1_third p2 (0 : Int32)
def f_X1_has (p0 : Int32) (p1 : Int32) : Option (Int32) :=
  if ((p0 >>> (p1 &&& 31)) &&& (1 : Int32)) = 0 then
    some ((0 : Int32))
  else
    some ((1 : Int32))
def f_X1_rowWith_70 (k22 : Int32 → Int32 → Int32 → Int32 → Int32 → Int32 → (Nat → Int32) → (Nat → Int32) → (Nat → Int32) → (Nat → Int32) → Option (Int32)) (x1 : Int32) (x2 : Int32) (x3 : Int32) (x4 : Int32) (x5 : Int32) (v_a0_unsureCount : Int32) (w_a0_stacks_lengths : Nat → Int32) (w_a0_stacks_rows : Nat → Int32) (w_a0_unsurePlaces : Nat → Int32) (w_a0_unsureStacks : Nat → Int32) : Option (Int32) :=
  k22 x1 x2 x3 x4 (x5 + 1) v_a0_unsureCount w_a0_stacks_lengths w_a0_stacks_rows w_a0_unsurePlaces w_a0_unsureStacks
def f_X1_rowWith_22 : Nat → Int32 → Int32 → Int32 → Int32 → Int32 → Int32 → (Nat → Int32) → (Nat → Int32) → (Nat → Int32) → (Nat → Int32) → Option (Int32)
  | 0, _, _, _, _, _, _, _, _, _, _ => none
  | n + 1, x1, x2, x3, x4, x5, v_a0_unsureCount, w_a0_stacks_lengths, w_a0_stacks_rows, w_a0_unsurePlaces, w_a0_unsureStacks =>
    if v_a0_unsureCount ≤ x5 then
      some (x3)
    else
      (bd (f_X1_has x2 x5) fun t2 =>
       if t2 = 0 then
         f_X1_rowWith_70 (fun x1 x2 x3 x4 x5 v_a0_unsureCount w_a0_stacks_lengths w_a0_stacks_rows w_a0_unsurePlaces w_a0_unsureStacks => f_X1_rowWith_22 n x1 x2 x3 x4 x5 v_a0_unsureCount w_a0_stacks_lengths w_a0_stacks_rows w_a0_unsurePlaces w_a0_unsureStacks) x1 x2 x3 x4 x5 v_a0_unsureCount w_a0_stacks_lengths w_a0_stacks_rows w_a0_unsurePlaces w_a0_unsureStacks
       else
         (bd (f_X11_at 4 x5 w_a0_unsureStacks) fun t4 =>
          if t4 = x1 then
            (bd (f_X11_at 4 x5 w_a0_unsurePlaces) fun t6 =>
             bd (f_X8_bit x4 t6) fun t7 =>
             lt (x3 ^^^ t7) fun n8 =>
             f_X1_rowWith_70 (fun x1 x2 x3 x4 x5 v_a0_unsureCount w_a0_stacks_lengths w_a0_stacks_rows w_a0_unsurePlaces w_a0_unsureStacks => f_X1_rowWith_22 n x1 x2 x3 x4 x5 v_a0_unsureCount w_a0_stacks_lengths w_a0_stacks_rows w_a0_unsurePlaces w_a0_unsureStacks) x1 x2 n8 x4 x5 v_a0_unsureCount w_a0_stacks_lengths w_a0_stacks_rows w_a0_unsurePlaces w_a0_unsureStacks)
          else
            f_X1_rowWith_70 (fun x1 x2 x3 x4 x5 v_a0_unsureCount w_a0_stacks_lengths w_a0_stacks_rows w_a0_unsurePlaces w_a0_unsureStacks => f_X1_rowWith_22 n x1 x2 x3 x4 x5 v_a0_unsureCount w_a0_stacks_lengths w_a0_stacks_rows w_a0_unsurePlaces w_a0_unsureStacks) x1 x2 x3 x4 x5 v_a0_unsureCount w_a0_stacks_lengths w_a0_stacks_rows w_a0_unsurePlaces w_a0_unsureStacks))
def f_X1_rowWith (p1 : Int32) (p2 : Int32) (v_a0_unsureCount : Int32) (w_a0_stacks_lengths : Nat → Int32) (w_a0_stacks_rows : Nat → Int32) (w_a0_unsurePlaces : Nat → Int32) (w_a0_unsureStacks : Nat → Int32) : Option (Int32) :=
  bd (f_X9_row p1 w_a0_stacks_rows) fun t1 =>
  bd (f_X9_steps p1 w_a0_stacks_lengths) fun t2 =>
  f_X1_rowWith_22 kFU p1 p2 t1 t2 (0 : Int32) v_a0_unsureCount w_a0_stacks_lengths w_a0_stacks_rows w_a0_unsurePlaces w_a0_unsureStacks
def f_X1_isSo (p1 : Int32) (p2 : Int32) (v_a0_unsureCount : Int32) (w_a0_agreedDistances : Nat → Int32) (w_a0_agreedLayers : Nat → Int32) (w_a0_agreedStacks : Nat → Int32) (w_a0_stacks_lengths : Nat → Int32) (w_a0_stacks_rows : Nat → Int32) (w_a0_unsurePlaces : Nat → Int32) (w_a0_unsureStacks : Nat → Int32) : Option (Int32) :=
  bd (f_X11_at 6 p1 w_a0_agreedStacks) fun t1 =>
  bd (f_X9_steps t1 w_a0_stacks_lengths) fun t2 =>
  bd (f_X1_rowWith t1 p2 v_a0_unsureCount w_a0_stacks_lengths w_a0_stacks_rows w_a0_unsurePlaces w_a0_unsureStacks) fun t3 =>
  bd (f_X11_at 6 p1 w_a0_agreedDistances) fun t4 =>
  bd (f_X8_layersAlike t3 t2 t4) fun t5 =>
  bd (f_X11_at 6 p1 w_a0_agreedLayers) fun t6 =>
  if t5 = t6 then
    some ((1 : Int32))
  else
    some ((0 : Int32))
def f_X1_areAllSo_2 : Nat → Int32 → Int32 → Int32 → Int32 → (Nat → Int32) → (Nat → Int32) → (Nat → Int32) → (Nat → Int32) → (Nat → Int32) → (Nat → Int32) → (Nat → Int32) → Option (Int32)
  | 0, _, _, _, _, _, _, _, _, _, _, _ => none
  | n + 1, x1, x2, v_a0_agreedCount, v_a0_unsureCount, w_a0_agreedDistances, w_a0_agreedLayers, w_a0_agreedStacks, w_a0_stacks_lengths, w_a0_stacks_rows, w_a0_unsurePlaces, w_a0_unsureStacks =>
    if v_a0_agreedCount ≤ x2 then
      some ((1 : Int32))
    else
      (bd (f_X1_isSo x2 x1 v_a0_unsureCount w_a0_agreedDistances w_a0_agreedLayers w_a0_agreedStacks w_a0_stacks_lengths w_a0_stacks_rows w_a0_unsurePlaces w_a0_unsureStacks) fun t2 =>
       if t2 = 0 then
         some ((0 : Int32))
       else
         f_X1_areAllSo_2 n x1 (x2 + 1) v_a0_agreedCount v_a0_unsureCount w_a0_agreedDistances w_a0_agreedLayers w_a0_agreedStacks w_a0_stacks_lengths w_a0_stacks_rows w_a0_unsurePlaces w_a0_unsureStacks)
def f_X1_areAllSo (p1 : Int32) (v_a0_agreedCount : Int32) (v_a0_unsureCount : Int32) (w_a0_agreedDistances : Nat → Int32) (w_a0_agreedLayers : Nat → Int32) (w_a0_agreedStacks : Nat → Int32) (w_a0_stacks_lengths : Nat → Int32) (w_a0_stacks_rows : Nat → Int32) (w_a0_unsurePlaces : Nat → Int32) (w_a0_unsureStacks : Nat → Int32) : Option (Int32) :=
  f_X1_areAllSo_2 kFU p1 (0 : Int32) v_a0_agreedCount v_a0_unsureCount w_a0_agreedDistances w_a0_agreedLayers w_a0_agreedStacks w_a0_stacks_lengths w_a0_stacks_rows w_a0_unsurePlaces w_a0_unsureStacks
def f_X1_of_30 (k4 : Int32 → Int32 → Int32 → Int32 → (Nat → Int32) → (Nat → Int32) → (Nat → Int32) → (Nat → Int32) → (Nat → Int32) → (Nat → Int32) → (Nat → Int32) → Option (Int32)) (x2 : Int32) (s0 : Int32) (s1 : Int32) (v_a0_agreedCount : Int32) (v_a0_unsureCount : Int32) (w_a0_agreedDistances : Nat → Int32) (w_a0_agreedLayers : Nat → Int32) (w_a0_agreedStacks : Nat → Int32) (w_a0_stacks_lengths : Nat → Int32) (w_a0_stacks_rows : Nat → Int32) (w_a0_unsurePlaces : Nat → Int32) (w_a0_unsureStacks : Nat → Int32) : Option (Int32) :=
  lt (s0 ||| s1) fun n1 =>
  k4 n1 (x2 + 1) v_a0_agreedCount v_a0_unsureCount w_a0_agreedDistances w_a0_agreedLayers w_a0_agreedStacks w_a0_stacks_lengths w_a0_stacks_rows w_a0_unsurePlaces w_a0_unsureStacks
def f_X1_of_4 : Nat → Int32 → Int32 → Int32 → Int32 → (Nat → Int32) → (Nat → Int32) → (Nat → Int32) → (Nat → Int32) → (Nat → Int32) → (Nat → Int32) → (Nat → Int32) → Option (Int32)
  | 0, _, _, _, _, _, _, _, _, _, _, _ => none
  | n + 1, x1, x2, v_a0_agreedCount, v_a0_unsureCount, w_a0_agreedDistances, w_a0_agreedLayers, w_a0_agreedStacks, w_a0_stacks_lengths, w_a0_stacks_rows, w_a0_unsurePlaces, w_a0_unsureStacks =>
    if ((1 : Int32) <<< (v_a0_unsureCount &&& 31)) ≤ x2 then
      some (x1)
    else
      (bd (f_X1_areAllSo x2 v_a0_agreedCount v_a0_unsureCount w_a0_agreedDistances w_a0_agreedLayers w_a0_agreedStacks w_a0_stacks_lengths w_a0_stacks_rows w_a0_unsurePlaces w_a0_unsureStacks) fun t2 =>
       if t2 = 0 then
         f_X1_of_30 (fun x1 x2 v_a0_agreedCount v_a0_unsureCount w_a0_agreedDistances w_a0_agreedLayers w_a0_agreedStacks w_a0_stacks_lengths w_a0_stacks_rows w_a0_unsurePlaces w_a0_unsureStacks => f_X1_of_4 n x1 x2 v_a0_agreedCount v_a0_unsureCount w_a0_agreedDistances w_a0_agreedLayers w_a0_agreedStacks w_a0_stacks_lengths w_a0_stacks_rows w_a0_unsurePlaces w_a0_unsureStacks) x2 x1 (0 : Int32) v_a0_agreedCount v_a0_unsureCount w_a0_agreedDistances w_a0_agreedLayers w_a0_agreedStacks w_a0_stacks_lengths w_a0_stacks_rows w_a0_unsurePlaces w_a0_unsureStacks
       else
         f_X1_of_30 (fun x1 x2 v_a0_agreedCount v_a0_unsureCount w_a0_agreedDistances w_a0_agreedLayers w_a0_agreedStacks w_a0_stacks_lengths w_a0_stacks_rows w_a0_unsurePlaces w_a0_unsureStacks => f_X1_of_4 n x1 x2 v_a0_agreedCount v_a0_unsureCount w_a0_agreedDistances w_a0_agreedLayers w_a0_agreedStacks w_a0_stacks_lengths w_a0_stacks_rows w_a0_unsurePlaces w_a0_unsureStacks) x2 x1 ((1 : Int32) <<< (x2 &&& 31)) v_a0_agreedCount v_a0_unsureCount w_a0_agreedDistances w_a0_agreedLayers w_a0_agreedStacks w_a0_stacks_lengths w_a0_stacks_rows w_a0_unsurePlaces w_a0_unsureStacks)
def f_X1_of (v_a0_agreedCount : Int32) (v_a0_unsureCount : Int32) (w_a0_agreedDistances : Nat → Int32) (w_a0_agreedLayers : Nat → Int32) (w_a0_agreedStacks : Nat → Int32) (w_a0_stacks_lengths : Nat → Int32) (w_a0_stacks_rows : Nat → Int32) (w_a0_unsurePlaces : Nat → Int32) (w_a0_unsureStacks : Nat → Int32) : Option (Int32) :=
  f_X1_of_4 kFU (0 : Int32) (0 : Int32) v_a0_agreedCount v_a0_unsureCount w_a0_agreedDistances w_a0_agreedLayers w_a0_agreedStacks w_a0_stacks_lengths w_a0_stacks_rows w_a0_unsurePlaces w_a0_unsureStacks
def f_X1_setAt_28 (k4 : Int32 → Int32 → Int32 → Int32 → Option (Int32)) (x0 : Int32) (x1 : Int32) (x2 : Int32) (x3 : Int32) : Option (Int32) :=
  k4 x0 x1 x2 (x3 + 1)
def f_X1_setAt_4 : Nat → Int32 → Int32 → Int32 → Int32 → Option (Int32)
  | 0, _, _, _, _ => none
  | n + 1, x0, x1, x2, x3 =>
    if (16 : Int32) ≤ x3 then
      some ((-1 : Int32))
    else
      (bd (f_X1_has x0 x3) fun t2 =>
       if t2 = 0 then
         f_X1_setAt_28 (fun x0 x1 x2 x3 => f_X1_setAt_4 n x0 x1 x2 x3) x0 x1 x2 x3
       else
         (if x2 = x1 then
            some (x3)
          else
            f_X1_setAt_28 (fun x0 x1 x2 x3 => f_X1_setAt_4 n x0 x1 x2 x3) x0 x1 (x2 + 1) x3))
def f_X1_setAt (p0 : Int32) (p1 : Int32) : Option (Int32) :=
  f_X1_setAt_4 kFU p0 p1 (0 : Int32) (0 : Int32)
def f_X1_inSome_24 (k4 : Int32 → Int32 → Int32 → Option (Int32)) (x0 : Int32) (x2 : Int32) (s0 : Int32) (s1 : Int32) : Option (Int32) :=
  lt (s0 ||| s1) fun n1 =>
  k4 x0 n1 (x2 + 1)
def f_X1_inSome_4 : Nat → Int32 → Int32 → Int32 → Option (Int32)
  | 0, _, _, _ => none
  | n + 1, x0, x1, x2 =>
    if (16 : Int32) ≤ x2 then
      some (x1)
    else
      (bd (f_X1_has x0 x2) fun t2 =>
       if t2 = 0 then
         f_X1_inSome_24 (fun x0 x1 x2 => f_X1_inSome_4 n x0 x1 x2) x0 x2 x1 (0 : Int32)
       else
         f_X1_inSome_24 (fun x0 x1 x2 => f_X1_inSome_4 n x0 x1 x2) x0 x2 x1 x2)
def f_X1_inSome (p0 : Int32) : Option (Int32) :=
  f_X1_inSome_4 kFU p0 (0 : Int32) (0 : Int32)
def f_X1_inAll_33 (k13 : Int32 → Int32 → Int32 → Option (Int32)) (x0 : Int32) (x2 : Int32) (s0 : Int32) (s1 : Int32) : Option (Int32) :=
  lt (s0 &&& s1) fun n1 =>
  k13 x0 n1 (x2 + 1)
def f_X1_inAll_13 : Nat → Int32 → Int32 → Int32 → Option (Int32)
  | 0, _, _, _ => none
  | n + 1, x0, x1, x2 =>
    if (16 : Int32) ≤ x2 then
      some (x1)
    else
      (bd (f_X1_has x0 x2) fun t2 =>
       if t2 = 0 then
         f_X1_inAll_33 (fun x0 x1 x2 => f_X1_inAll_13 n x0 x1 x2) x0 x2 x1 x1
       else
         f_X1_inAll_33 (fun x0 x1 x2 => f_X1_inAll_13 n x0 x1 x2) x0 x2 x1 x2)
def f_X1_inAll_10 (x0 : Int32) (s0 : Int32) : Option (Int32) :=
  f_X1_inAll_13 kFU x0 s0 (0 : Int32)
def f_X1_inAll (p0 : Int32) : Option (Int32) :=
  if p0 = 0 then
    f_X1_inAll_10 p0 (0 : Int32)
  else
    f_X1_inAll_10 p0 (15 : Int32)
def f_X1_mostLeft_32 (k4 : Int32 → Int32 → Int32 → Int32 → Option (Int32)) (x0 : Int32) (x1 : Int32) (x3 : Int32) (s0 : Int32) (s1 : Int32) : Option (Int32) :=
  lt (s0 + s1) fun n1 =>
  k4 x0 x1 n1 (x3 + 1)
def f_X1_mostLeft_31 (k4 : Int32 → Int32 → Int32 → Int32 → Option (Int32)) (x0 : Int32) (x1 : Int32) (x3 : Int32) (s0 : Int32) : Option (Int32) :=
  f_X1_mostLeft_32 k4 x0 x1 x3 s0 (0 : Int32)
def f_X1_mostLeft_4 : Nat → Int32 → Int32 → Int32 → Int32 → Option (Int32)
  | 0, _, _, _, _ => none
  | n + 1, x0, x1, x2, x3 =>
    if (16 : Int32) ≤ x3 then
      (bd (f_J6_bitCount_0f7a4 x0) fun t2 =>
       some (if x2 < (t2 - x2) then (t2 - x2) else x2))
    else
      (bd (f_X1_has x0 x3) fun t3 =>
       if t3 = 0 then
         f_X1_mostLeft_31 (fun x0 x1 x2 x3 => f_X1_mostLeft_4 n x0 x1 x2 x3) x0 x1 x3 x2
       else
         (bd (f_X1_has x3 x1) fun t5 =>
          if t5 = 0 then
            f_X1_mostLeft_31 (fun x0 x1 x2 x3 => f_X1_mostLeft_4 n x0 x1 x2 x3) x0 x1 x3 x2
          else
            f_X1_mostLeft_32 (fun x0 x1 x2 x3 => f_X1_mostLeft_4 n x0 x1 x2 x3) x0 x1 x3 x2 (1 : Int32)))
def f_X1_mostLeft (p0 : Int32) (p1 : Int32) : Option (Int32) :=
  f_X1_mostLeft_4 kFU p0 p1 (0 : Int32) (0 : Int32)
def f_X1_bestQuestion_35 (k15 : Int32 → Int32 → Int32 → Int32 → Option (Int32)) (x0 : Int32) (x1 : Int32) (x2 : Int32) (x3 : Int32) : Option (Int32) :=
  k15 x0 x1 x2 (x3 + 1)
def f_X1_bestQuestion_15 : Nat → Int32 → Int32 → Int32 → Int32 → Option (Int32)
  | 0, _, _, _, _ => none
  | n + 1, x0, x1, x2, x3 =>
    if x1 ≤ x3 then
      some (x2)
    else
      (bd (f_X1_mostLeft x0 x3) fun t2 =>
       bd (f_X1_mostLeft x0 x2) fun t3 =>
       if t3 ≤ t2 then
         f_X1_bestQuestion_35 (fun x0 x1 x2 x3 => f_X1_bestQuestion_15 n x0 x1 x2 x3) x0 x1 x2 x3
       else
         f_X1_bestQuestion_35 (fun x0 x1 x2 x3 => f_X1_bestQuestion_15 n x0 x1 x2 x3) x0 x1 x3 x3)
def f_X1_bestQuestion (p0 : Int32) (p1 : Int32) : Option (Int32) :=
  if p0 = 0 then
    some ((-2 : Int32))
  else
    (if p1 = 0 then
       some ((-2 : Int32))
     else
       f_X1_bestQuestion_15 kFU p0 p1 (0 : Int32) (1 : Int32))
theorem u_X4_init_1 : (Cond.methodLink RX4 3 objectInit) ∈ wsX4_init := List.mem_of_getElem? (i := 1) (by decide +kernel)
theorem u_X4_init_2 : (Cond.instanceMethod objectInit) ∈ wsX4_init := List.mem_of_getElem? (i := 2) (by decide +kernel)
theorem u_X4_init_3 : (Cond.code objectInit ⟨#[0xb1]⟩ 1 none) ∈ wsX4_init := List.mem_of_getElem? (i := 3) (by decide +kernel)
theorem u_X4_init_4 : (Cond.classLink RX4 9 RX9) ∈ wsX4_init := List.mem_of_getElem? (i := 4) (by decide +kernel)
theorem u_X4_init_5 : (Cond.instantiable RX9 3) ∈ wsX4_init := List.mem_of_getElem? (i := 5) (by decide +kernel)
theorem u_X4_init_6 : (Cond.initialized RX9) ∈ wsX4_init := List.mem_of_getElem? (i := 6) (by decide +kernel)
theorem u_X4_init_7 : (Cond.fieldLink RX4 12 "ClosePacking$Lab" "stacks" "LClosePacking$Stacks;") ∈ wsX4_init := List.mem_of_getElem? (i := 7) (by decide +kernel)
theorem u_X4_init_8 : (Cond.arrayClass .long) ∈ wsX4_init := List.mem_of_getElem? (i := 8) (by decide +kernel)
theorem u_X4_init_9 : (Cond.fieldLink RX4 18 "ClosePacking$Lab" "names" "[J") ∈ wsX4_init := List.mem_of_getElem? (i := 9) (by decide +kernel)
theorem u_X4_init_10 : (Cond.arrayClass .int) ∈ wsX4_init := List.mem_of_getElem? (i := 10) (by decide +kernel)
theorem u_X4_init_11 : (Cond.fieldLink RX4 22 "ClosePacking$Lab" "unsureStacks" "[I") ∈ wsX4_init := List.mem_of_getElem? (i := 11) (by decide +kernel)
theorem u_X4_init_12 : (Cond.fieldLink RX4 26 "ClosePacking$Lab" "unsurePlaces" "[I") ∈ wsX4_init := List.mem_of_getElem? (i := 12) (by decide +kernel)
theorem u_X4_init_13 : (Cond.fieldLink RX4 29 "ClosePacking$Lab" "agreedStacks" "[I") ∈ wsX4_init := List.mem_of_getElem? (i := 13) (by decide +kernel)
theorem u_X4_init_14 : (Cond.fieldLink RX4 32 "ClosePacking$Lab" "agreedDistances" "[I") ∈ wsX4_init := List.mem_of_getElem? (i := 14) (by decide +kernel)
theorem u_X4_init_15 : (Cond.fieldLink RX4 35 "ClosePacking$Lab" "agreedLayers" "[I") ∈ wsX4_init := List.mem_of_getElem? (i := 15) (by decide +kernel)
theorem u_X4_init_16 : (Cond.instanceMethod yX9_init) ∈ wsX4_init := List.mem_of_getElem? (i := 16) (by decide +kernel)
theorem n_X4_init_X4 : ∀ w ∈ u_ws RX4 TX4 14, w ∈ wsX4_init := by decide +kernel
theorem n_X4_init_X9 : ∀ w ∈ u_ws RX9 TX9 3, w ∈ wsX4_init := by decide +kernel
theorem nw_X4_init_12 : k_nest[12]? = some (.methodLinkNest RX4 11 yX9_init "ClosePacking") := rfl
abbrev rm_X4_init : Room := { frames := 2, cells := 9, slots := 44, locals := 40 }
theorem e_X4_init : yX4_init.cls = RX4 ∧ yX4_init.cls ≠ "java/lang/invoke/MethodHandle" ∧ yX4_init.cls ≠ "java/lang/invoke/VarHandle" ∧ (parseMethodDescriptor yX4_init.desc).map (fun d => d.parameters.length) = some 0 := by decide +kernel
set_option maxHeartbeats 4000000 in
set_option maxRecDepth 100000 in
theorem c_X4_init {l : Launch} {G : k_G} {h_t : Nat} {g_t_complete g_t_near g_t_second g_t_third g_t_growth g_t_stacks g_t_names g_t_unsureCount g_t_unsureStacks g_t_unsurePlaces g_t_agreedCount g_t_agreedStacks g_t_agreedDistances g_t_agreedLayers : Value} {sz : Nat} {out : Unit} (hrun : f_X4_init  = some out) : k_Cv l G yX4_init wsX4_init rm_X4_init [.ref h_t] [(h_t, .inr (2, [g_t_complete, g_t_near, g_t_second, g_t_third, g_t_growth, g_t_stacks, g_t_names, g_t_unsureCount, g_t_unsureStacks, g_t_unsurePlaces, g_t_agreedCount, g_t_agreedStacks, g_t_agreedDistances, g_t_agreedLayers]))] sz (fun (u : Nat × Nat × Nat × Nat × Nat × Nat × Nat × Nat × Nat) => [(h_t, .inr (2, [g_t_complete, g_t_near, g_t_second, g_t_third, g_t_growth, .ref u.1, .ref u.2.1, g_t_unsureCount, .ref u.2.2.1, .ref u.2.2.2.1, g_t_agreedCount, .ref u.2.2.2.2.1, .ref u.2.2.2.2.2.1, .ref u.2.2.2.2.2.2.1])), (u.1, .inr (6, [.ref u.2.2.2.2.2.2.2.1, .ref u.2.2.2.2.2.2.2.2, .int (0 : Int32)])), (u.2.1, .inl (k_cJ G, 5, .inr (.inl (fun _ => 0)))), (u.2.2.1, .inl (k_cI G, 4, .inl (fun _ => 0))), (u.2.2.2.1, .inl (k_cI G, 4, .inl (fun _ => 0))), (u.2.2.2.2.1, .inl (k_cI G, 6, .inl (fun _ => 0))), (u.2.2.2.2.2.1, .inl (k_cI G, 6, .inl (fun _ => 0))), (u.2.2.2.2.2.2.1, .inl (k_cI G, 6, .inl (fun _ => 0))), (u.2.2.2.2.2.2.2.1, .inl (k_cI G, 5, .inl (fun _ => 0))), (u.2.2.2.2.2.2.2.2, .inl (k_cI G, 5, .inl (fun _ => 0)))]) 9 44 := by
  refine k_of (cc := cX4_init) (nL := 1) (ret := none) (own := RX4) (nm := "<init>") (by decide) rfl rfl rfl rfl ?_
  intro p e s m args below meth c ls hsz C0 hP hD hS hl
  have hl : lv_has ls 1 [(0, .ref h_t)] := hl
  generalize hH : s.heap = H at hP
  have hS : va_S (va_A [(h_t, .inr (2, [g_t_complete, g_t_near, g_t_second, g_t_third, g_t_growth, g_t_stacks, g_t_names, g_t_unsureCount, g_t_unsureStacks, g_t_unsurePlaces, g_t_agreedCount, g_t_agreedStacks, g_t_agreedDistances, g_t_agreedLayers]))] sz) s.heap H [] := by rw [← hH]; exact hS
  clear hH
  generalize va_A [(h_t, .inr (2, [g_t_complete, g_t_near, g_t_second, g_t_third, g_t_growth, g_t_stacks, g_t_names, g_t_unsureCount, g_t_unsureStacks, g_t_unsurePlaces, g_t_agreedCount, g_t_agreedStacks, g_t_agreedDistances, g_t_agreedLayers]))] sz = A at C0 hD hS ⊢
  have hx := C0.1
  have hb := C0.2.1
  have hts := C0.2.2.2.1
  have hown := C0.2.2.2.2.1
  have hK := C0.2.2.2.2.2.2.2.2.1.1
  have hNW := C0.2.2.2.2.2.2.2.2.1.2.1
  have hSF := C0.2.2.2.2.2.2.2.2.1.2.2
  rw [f_X4_init] at hrun
  refine lv_aload_n hx hb dX4_init_0 rfl (lv_at hl 0 rfl) ?_
  refine W.objInit hx hb hown (hts _ u_X4_init_1) (hts _ u_X4_init_2) (hts _ u_X4_init_3) rfl (by rw [C0.2.2.2.2.2.2.1]; exact hl.1) rfl dX4_init_1 (Nat.le_of_ble_eq_true rfl) (Nat.le_of_ble_eq_true rfl) ?_
  refine W.eq (g2 := F0 m 4 ls []) rfl ?_
  refine lv_aload_n hx hb dX4_init_4 rfl (lv_at hl 0 rfl) ?_
  refine va_new (ci := 6) (fs := [.null, .null, .int (0 : Int32)]) (C := RX9) (T := TX9) (N := 3) hx hb hts n_X4_init_X9 tyX9 tyX9_ok hown (hts _ u_X4_init_4) (hts _ u_X4_init_5) (hts _ u_X4_init_6) hK hP hD hS C0.2.2.2.2.2.2.2.1 rfl (by decide +kernel) (Nat.le_of_ble_eq_true rfl) (Nat.le_of_ble_eq_true rfl) dX4_init_5 (fun h_n5 H hP hD hS => ?_)
  have hP : va_P G.1 vwCl [(h_t, .inr (2, [g_t_complete, g_t_near, g_t_second, g_t_third, g_t_growth, g_t_stacks, g_t_names, g_t_unsureCount, g_t_unsureStacks, g_t_unsurePlaces, g_t_agreedCount, g_t_agreedStacks, g_t_agreedDistances, g_t_agreedLayers])), (h_n5, .inr (6, [.null, .null, .int (0 : Int32)]))] H := hP
  have hD : va_D A [(h_t, .inr (2, [g_t_complete, g_t_near, g_t_second, g_t_third, g_t_growth, g_t_stacks, g_t_names, g_t_unsureCount, g_t_unsureStacks, g_t_unsurePlaces, g_t_agreedCount, g_t_agreedStacks, g_t_agreedDistances, g_t_agreedLayers])), (h_n5, .inr (6, [.null, .null, .int (0 : Int32)]))] := hD
  refine W.widen (k := 1) (n := 3) (Nat.le_of_ble_eq_true rfl) (Nat.le_of_ble_eq_true rfl) ?_
  refine lv_dup hx hb dX4_init_8 rfl ?_
  obtain ⟨t1, et1, hrun⟩ := bd_inv hrun
  refine k_callv (w2 := fun u2 => [(h_t, .inr (2, [g_t_complete, g_t_near, g_t_second, g_t_third, g_t_growth, g_t_stacks, g_t_names, g_t_unsureCount, g_t_unsureStacks, g_t_unsurePlaces, g_t_agreedCount, g_t_agreedStacks, g_t_agreedDistances, g_t_agreedLayers])), (h_n5, .inr (6, [.ref u2.1, .ref u2.2, .int (0 : Int32)])), (u2.1, .inl (k_cI G, 5, .inl (fun _ => 0))), (u2.2, .inl (k_cI G, 5, .inl (fun _ => 0)))]) C0 (k_runIN (rest := [.ref h_n5, .ref h_t]) C0 (c_X9_init et1) (va_cnB 0 hts gX4_init_X9_init_n11 rfl rfl rfl (k_nw hNW 12 nw_X4_init_12) (hts _ u_X4_init_6) e_X9_init.2 ⟨Nat.le_of_ble_eq_true rfl, Nat.le_of_ble_eq_true rfl⟩) rfl (hts _ u_X4_init_16) hP hD hS [1] rfl (by decide) rfl hl.1 rfl (Nat.le_of_ble_eq_true rfl) dX4_init_9 ⟨Nat.le_of_ble_eq_true rfl, Nat.le_of_ble_eq_true rfl⟩) hP hD hS [1] [0] rfl rfl (by decide) (by decide) [0, 1, 2, 3] (by decide) (fun _ => rfl) (fun u2 H locs hP hD hS => ?_)
  have hP : va_P G.1 vwCl [(h_t, .inr (2, [g_t_complete, g_t_near, g_t_second, g_t_third, g_t_growth, g_t_stacks, g_t_names, g_t_unsureCount, g_t_unsureStacks, g_t_unsurePlaces, g_t_agreedCount, g_t_agreedStacks, g_t_agreedDistances, g_t_agreedLayers])), (h_n5, .inr (6, [.ref u2.1, .ref u2.2, .int (0 : Int32)])), (u2.1, .inl (k_cI G, 5, .inl (fun _ => 0))), (u2.2, .inl (k_cI G, 5, .inl (fun _ => 0)))] H := hP
  have hD : va_D A [(h_t, .inr (2, [g_t_complete, g_t_near, g_t_second, g_t_third, g_t_growth, g_t_stacks, g_t_names, g_t_unsureCount, g_t_unsureStacks, g_t_unsurePlaces, g_t_agreedCount, g_t_agreedStacks, g_t_agreedDistances, g_t_agreedLayers])), (h_n5, .inr (6, [.ref u2.1, .ref u2.2, .int (0 : Int32)])), (u2.1, .inl (k_cI G, 5, .inl (fun _ => 0))), (u2.2, .inl (k_cI G, 5, .inl (fun _ => 0)))] := hD
  refine W.widen (k := 3) (n := 13) (Nat.le_of_ble_eq_true rfl) (Nat.le_of_ble_eq_true rfl) ?_
  refine va_putF (D := G.1) (ci := 2) (v := .ref h_n5) (ty := (tyX4 5)) (C := RX4) (T := TX4) (N := 14) hx hb hts n_X4_init_X4 tyX4 tyX4_ok nmX4 hown hK hP hD hS 0 rfl rfl 5 (by decide) (hts _ u_X4_init_7) (fun _ h9 => h9) rfl C0.2.2.2.2.2.2.2.2.2 rfl (by decide +kernel) rfl rfl (Nat.le_of_ble_eq_true rfl) dX4_init_12 (fun H locs hP hD hS => ?_)
  have hP : va_P G.1 vwCl [(h_t, .inr (2, [g_t_complete, g_t_near, g_t_second, g_t_third, g_t_growth, .ref h_n5, g_t_names, g_t_unsureCount, g_t_unsureStacks, g_t_unsurePlaces, g_t_agreedCount, g_t_agreedStacks, g_t_agreedDistances, g_t_agreedLayers])), (h_n5, .inr (6, [.ref u2.1, .ref u2.2, .int (0 : Int32)])), (u2.1, .inl (k_cI G, 5, .inl (fun _ => 0))), (u2.2, .inl (k_cI G, 5, .inl (fun _ => 0)))] H := hP
  have hD : va_D A [(h_t, .inr (2, [g_t_complete, g_t_near, g_t_second, g_t_third, g_t_growth, .ref h_n5, g_t_names, g_t_unsureCount, g_t_unsureStacks, g_t_unsurePlaces, g_t_agreedCount, g_t_agreedStacks, g_t_agreedDistances, g_t_agreedLayers])), (h_n5, .inr (6, [.ref u2.1, .ref u2.2, .int (0 : Int32)])), (u2.1, .inl (k_cI G, 5, .inl (fun _ => 0))), (u2.2, .inl (k_cI G, 5, .inl (fun _ => 0)))] := hD
  refine lv_aload_n hx hb dX4_init_15 rfl (lv_at hl 0 rfl) ?_
  refine lv_iconst (v := 5) hx hb dX4_init_16 (by decide) ?_
  refine k_newa (atype := .long) (ty := .long) (a0 := (5, .inr (.inl (fun _ => 0)))) C0 (hts _ u_X4_init_8) rfl 2 rfl (fun _ h9 => h9) hP hD hS (fun _ => rfl) (by decide) (by decide) (Nat.le_of_ble_eq_true rfl) (Nat.le_of_ble_eq_true rfl) (Nat.le_of_ble_eq_true rfl) dX4_init_17 (fun h_n17 H hP hD hS => ?_)
  have hP : va_P G.1 vwCl [(h_t, .inr (2, [g_t_complete, g_t_near, g_t_second, g_t_third, g_t_growth, .ref h_n5, g_t_names, g_t_unsureCount, g_t_unsureStacks, g_t_unsurePlaces, g_t_agreedCount, g_t_agreedStacks, g_t_agreedDistances, g_t_agreedLayers])), (h_n5, .inr (6, [.ref u2.1, .ref u2.2, .int (0 : Int32)])), (u2.1, .inl (k_cI G, 5, .inl (fun _ => 0))), (u2.2, .inl (k_cI G, 5, .inl (fun _ => 0))), (h_n17, .inl (k_cJ G, 5, .inr (.inl (fun _ => 0))))] H := hP
  have hD : va_D A [(h_t, .inr (2, [g_t_complete, g_t_near, g_t_second, g_t_third, g_t_growth, .ref h_n5, g_t_names, g_t_unsureCount, g_t_unsureStacks, g_t_unsurePlaces, g_t_agreedCount, g_t_agreedStacks, g_t_agreedDistances, g_t_agreedLayers])), (h_n5, .inr (6, [.ref u2.1, .ref u2.2, .int (0 : Int32)])), (u2.1, .inl (k_cI G, 5, .inl (fun _ => 0))), (u2.2, .inl (k_cI G, 5, .inl (fun _ => 0))), (h_n17, .inl (k_cJ G, 5, .inr (.inl (fun _ => 0))))] := hD
  refine W.widen (k := 4) (n := 18) (Nat.le_of_ble_eq_true rfl) (Nat.le_of_ble_eq_true rfl) ?_
  refine va_putF (D := G.1) (ci := 2) (v := .ref h_n17) (ty := (tyX4 6)) (C := RX4) (T := TX4) (N := 14) hx hb hts n_X4_init_X4 tyX4 tyX4_ok nmX4 hown hK hP hD hS 0 rfl rfl 6 (by decide) (hts _ u_X4_init_9) (fun _ h9 => h9) rfl C0.2.2.2.2.2.2.2.2.2 rfl (by decide +kernel) rfl rfl (Nat.le_of_ble_eq_true rfl) dX4_init_19 (fun H locs hP hD hS => ?_)
  have hP : va_P G.1 vwCl [(h_t, .inr (2, [g_t_complete, g_t_near, g_t_second, g_t_third, g_t_growth, .ref h_n5, .ref h_n17, g_t_unsureCount, g_t_unsureStacks, g_t_unsurePlaces, g_t_agreedCount, g_t_agreedStacks, g_t_agreedDistances, g_t_agreedLayers])), (h_n5, .inr (6, [.ref u2.1, .ref u2.2, .int (0 : Int32)])), (u2.1, .inl (k_cI G, 5, .inl (fun _ => 0))), (u2.2, .inl (k_cI G, 5, .inl (fun _ => 0))), (h_n17, .inl (k_cJ G, 5, .inr (.inl (fun _ => 0))))] H := hP
  have hD : va_D A [(h_t, .inr (2, [g_t_complete, g_t_near, g_t_second, g_t_third, g_t_growth, .ref h_n5, .ref h_n17, g_t_unsureCount, g_t_unsureStacks, g_t_unsurePlaces, g_t_agreedCount, g_t_agreedStacks, g_t_agreedDistances, g_t_agreedLayers])), (h_n5, .inr (6, [.ref u2.1, .ref u2.2, .int (0 : Int32)])), (u2.1, .inl (k_cI G, 5, .inl (fun _ => 0))), (u2.2, .inl (k_cI G, 5, .inl (fun _ => 0))), (h_n17, .inl (k_cJ G, 5, .inr (.inl (fun _ => 0))))] := hD
  refine lv_aload_n hx hb dX4_init_22 rfl (lv_at hl 0 rfl) ?_
  refine lv_iconst (v := 4) hx hb dX4_init_23 (by decide) ?_
  refine k_newa (atype := .int) (ty := .int) (a0 := (4, .inl (fun _ => 0))) C0 (hts _ u_X4_init_10) rfl 1 rfl (fun _ h9 => h9) hP hD hS (fun _ => rfl) (by decide) (by decide) (Nat.le_of_ble_eq_true rfl) (Nat.le_of_ble_eq_true rfl) (Nat.le_of_ble_eq_true rfl) dX4_init_24 (fun h_n24 H hP hD hS => ?_)
  have hP : va_P G.1 vwCl [(h_t, .inr (2, [g_t_complete, g_t_near, g_t_second, g_t_third, g_t_growth, .ref h_n5, .ref h_n17, g_t_unsureCount, g_t_unsureStacks, g_t_unsurePlaces, g_t_agreedCount, g_t_agreedStacks, g_t_agreedDistances, g_t_agreedLayers])), (h_n5, .inr (6, [.ref u2.1, .ref u2.2, .int (0 : Int32)])), (u2.1, .inl (k_cI G, 5, .inl (fun _ => 0))), (u2.2, .inl (k_cI G, 5, .inl (fun _ => 0))), (h_n17, .inl (k_cJ G, 5, .inr (.inl (fun _ => 0)))), (h_n24, .inl (k_cI G, 4, .inl (fun _ => 0)))] H := hP
  have hD : va_D A [(h_t, .inr (2, [g_t_complete, g_t_near, g_t_second, g_t_third, g_t_growth, .ref h_n5, .ref h_n17, g_t_unsureCount, g_t_unsureStacks, g_t_unsurePlaces, g_t_agreedCount, g_t_agreedStacks, g_t_agreedDistances, g_t_agreedLayers])), (h_n5, .inr (6, [.ref u2.1, .ref u2.2, .int (0 : Int32)])), (u2.1, .inl (k_cI G, 5, .inl (fun _ => 0))), (u2.2, .inl (k_cI G, 5, .inl (fun _ => 0))), (h_n17, .inl (k_cJ G, 5, .inr (.inl (fun _ => 0)))), (h_n24, .inl (k_cI G, 4, .inl (fun _ => 0)))] := hD
  refine W.widen (k := 5) (n := 22) (Nat.le_of_ble_eq_true rfl) (Nat.le_of_ble_eq_true rfl) ?_
  refine va_putF (D := G.1) (ci := 2) (v := .ref h_n24) (ty := (tyX4 8)) (C := RX4) (T := TX4) (N := 14) hx hb hts n_X4_init_X4 tyX4 tyX4_ok nmX4 hown hK hP hD hS 0 rfl rfl 8 (by decide) (hts _ u_X4_init_11) (fun _ h9 => h9) rfl C0.2.2.2.2.2.2.2.2.2 rfl (by decide +kernel) rfl rfl (Nat.le_of_ble_eq_true rfl) dX4_init_26 (fun H locs hP hD hS => ?_)
  have hP : va_P G.1 vwCl [(h_t, .inr (2, [g_t_complete, g_t_near, g_t_second, g_t_third, g_t_growth, .ref h_n5, .ref h_n17, g_t_unsureCount, .ref h_n24, g_t_unsurePlaces, g_t_agreedCount, g_t_agreedStacks, g_t_agreedDistances, g_t_agreedLayers])), (h_n5, .inr (6, [.ref u2.1, .ref u2.2, .int (0 : Int32)])), (u2.1, .inl (k_cI G, 5, .inl (fun _ => 0))), (u2.2, .inl (k_cI G, 5, .inl (fun _ => 0))), (h_n17, .inl (k_cJ G, 5, .inr (.inl (fun _ => 0)))), (h_n24, .inl (k_cI G, 4, .inl (fun _ => 0)))] H := hP
  have hD : va_D A [(h_t, .inr (2, [g_t_complete, g_t_near, g_t_second, g_t_third, g_t_growth, .ref h_n5, .ref h_n17, g_t_unsureCount, .ref h_n24, g_t_unsurePlaces, g_t_agreedCount, g_t_agreedStacks, g_t_agreedDistances, g_t_agreedLayers])), (h_n5, .inr (6, [.ref u2.1, .ref u2.2, .int (0 : Int32)])), (u2.1, .inl (k_cI G, 5, .inl (fun _ => 0))), (u2.2, .inl (k_cI G, 5, .inl (fun _ => 0))), (h_n17, .inl (k_cJ G, 5, .inr (.inl (fun _ => 0)))), (h_n24, .inl (k_cI G, 4, .inl (fun _ => 0)))] := hD
  refine lv_aload_n hx hb dX4_init_29 rfl (lv_at hl 0 rfl) ?_
  refine lv_iconst (v := 4) hx hb dX4_init_30 (by decide) ?_
  refine k_newa (atype := .int) (ty := .int) (a0 := (4, .inl (fun _ => 0))) C0 (hts _ u_X4_init_10) rfl 1 rfl (fun _ h9 => h9) hP hD hS (fun _ => rfl) (by decide) (by decide) (Nat.le_of_ble_eq_true rfl) (Nat.le_of_ble_eq_true rfl) (Nat.le_of_ble_eq_true rfl) dX4_init_31 (fun h_n31 H hP hD hS => ?_)
  have hP : va_P G.1 vwCl [(h_t, .inr (2, [g_t_complete, g_t_near, g_t_second, g_t_third, g_t_growth, .ref h_n5, .ref h_n17, g_t_unsureCount, .ref h_n24, g_t_unsurePlaces, g_t_agreedCount, g_t_agreedStacks, g_t_agreedDistances, g_t_agreedLayers])), (h_n5, .inr (6, [.ref u2.1, .ref u2.2, .int (0 : Int32)])), (u2.1, .inl (k_cI G, 5, .inl (fun _ => 0))), (u2.2, .inl (k_cI G, 5, .inl (fun _ => 0))), (h_n17, .inl (k_cJ G, 5, .inr (.inl (fun _ => 0)))), (h_n24, .inl (k_cI G, 4, .inl (fun _ => 0))), (h_n31, .inl (k_cI G, 4, .inl (fun _ => 0)))] H := hP
  have hD : va_D A [(h_t, .inr (2, [g_t_complete, g_t_near, g_t_second, g_t_third, g_t_growth, .ref h_n5, .ref h_n17, g_t_unsureCount, .ref h_n24, g_t_unsurePlaces, g_t_agreedCount, g_t_agreedStacks, g_t_agreedDistances, g_t_agreedLayers])), (h_n5, .inr (6, [.ref u2.1, .ref u2.2, .int (0 : Int32)])), (u2.1, .inl (k_cI G, 5, .inl (fun _ => 0))), (u2.2, .inl (k_cI G, 5, .inl (fun _ => 0))), (h_n17, .inl (k_cJ G, 5, .inr (.inl (fun _ => 0)))), (h_n24, .inl (k_cI G, 4, .inl (fun _ => 0))), (h_n31, .inl (k_cI G, 4, .inl (fun _ => 0)))] := hD
  refine W.widen (k := 6) (n := 26) (Nat.le_of_ble_eq_true rfl) (Nat.le_of_ble_eq_true rfl) ?_
  refine va_putF (D := G.1) (ci := 2) (v := .ref h_n31) (ty := (tyX4 9)) (C := RX4) (T := TX4) (N := 14) hx hb hts n_X4_init_X4 tyX4 tyX4_ok nmX4 hown hK hP hD hS 0 rfl rfl 9 (by decide) (hts _ u_X4_init_12) (fun _ h9 => h9) rfl C0.2.2.2.2.2.2.2.2.2 rfl (by decide +kernel) rfl rfl (Nat.le_of_ble_eq_true rfl) dX4_init_33 (fun H locs hP hD hS => ?_)
  have hP : va_P G.1 vwCl [(h_t, .inr (2, [g_t_complete, g_t_near, g_t_second, g_t_third, g_t_growth, .ref h_n5, .ref h_n17, g_t_unsureCount, .ref h_n24, .ref h_n31, g_t_agreedCount, g_t_agreedStacks, g_t_agreedDistances, g_t_agreedLayers])), (h_n5, .inr (6, [.ref u2.1, .ref u2.2, .int (0 : Int32)])), (u2.1, .inl (k_cI G, 5, .inl (fun _ => 0))), (u2.2, .inl (k_cI G, 5, .inl (fun _ => 0))), (h_n17, .inl (k_cJ G, 5, .inr (.inl (fun _ => 0)))), (h_n24, .inl (k_cI G, 4, .inl (fun _ => 0))), (h_n31, .inl (k_cI G, 4, .inl (fun _ => 0)))] H := hP
  have hD : va_D A [(h_t, .inr (2, [g_t_complete, g_t_near, g_t_second, g_t_third, g_t_growth, .ref h_n5, .ref h_n17, g_t_unsureCount, .ref h_n24, .ref h_n31, g_t_agreedCount, g_t_agreedStacks, g_t_agreedDistances, g_t_agreedLayers])), (h_n5, .inr (6, [.ref u2.1, .ref u2.2, .int (0 : Int32)])), (u2.1, .inl (k_cI G, 5, .inl (fun _ => 0))), (u2.2, .inl (k_cI G, 5, .inl (fun _ => 0))), (h_n17, .inl (k_cJ G, 5, .inr (.inl (fun _ => 0)))), (h_n24, .inl (k_cI G, 4, .inl (fun _ => 0))), (h_n31, .inl (k_cI G, 4, .inl (fun _ => 0)))] := hD
  refine lv_aload_n hx hb dX4_init_36 rfl (lv_at hl 0 rfl) ?_
  refine lv_bipush (v := 6) hx hb dX4_init_37 (by decide) ?_
  refine k_newa (atype := .int) (ty := .int) (a0 := (6, .inl (fun _ => 0))) C0 (hts _ u_X4_init_10) rfl 1 rfl (fun _ h9 => h9) hP hD hS (fun _ => rfl) (by decide) (by decide) (Nat.le_of_ble_eq_true rfl) (Nat.le_of_ble_eq_true rfl) (Nat.le_of_ble_eq_true rfl) dX4_init_39 (fun h_n39 H hP hD hS => ?_)
  have hP : va_P G.1 vwCl [(h_t, .inr (2, [g_t_complete, g_t_near, g_t_second, g_t_third, g_t_growth, .ref h_n5, .ref h_n17, g_t_unsureCount, .ref h_n24, .ref h_n31, g_t_agreedCount, g_t_agreedStacks, g_t_agreedDistances, g_t_agreedLayers])), (h_n5, .inr (6, [.ref u2.1, .ref u2.2, .int (0 : Int32)])), (u2.1, .inl (k_cI G, 5, .inl (fun _ => 0))), (u2.2, .inl (k_cI G, 5, .inl (fun _ => 0))), (h_n17, .inl (k_cJ G, 5, .inr (.inl (fun _ => 0)))), (h_n24, .inl (k_cI G, 4, .inl (fun _ => 0))), (h_n31, .inl (k_cI G, 4, .inl (fun _ => 0))), (h_n39, .inl (k_cI G, 6, .inl (fun _ => 0)))] H := hP
  have hD : va_D A [(h_t, .inr (2, [g_t_complete, g_t_near, g_t_second, g_t_third, g_t_growth, .ref h_n5, .ref h_n17, g_t_unsureCount, .ref h_n24, .ref h_n31, g_t_agreedCount, g_t_agreedStacks, g_t_agreedDistances, g_t_agreedLayers])), (h_n5, .inr (6, [.ref u2.1, .ref u2.2, .int (0 : Int32)])), (u2.1, .inl (k_cI G, 5, .inl (fun _ => 0))), (u2.2, .inl (k_cI G, 5, .inl (fun _ => 0))), (h_n17, .inl (k_cJ G, 5, .inr (.inl (fun _ => 0)))), (h_n24, .inl (k_cI G, 4, .inl (fun _ => 0))), (h_n31, .inl (k_cI G, 4, .inl (fun _ => 0))), (h_n39, .inl (k_cI G, 6, .inl (fun _ => 0)))] := hD
  refine W.widen (k := 7) (n := 32) (Nat.le_of_ble_eq_true rfl) (Nat.le_of_ble_eq_true rfl) ?_
  refine va_putF (D := G.1) (ci := 2) (v := .ref h_n39) (ty := (tyX4 11)) (C := RX4) (T := TX4) (N := 14) hx hb hts n_X4_init_X4 tyX4 tyX4_ok nmX4 hown hK hP hD hS 0 rfl rfl 11 (by decide) (hts _ u_X4_init_13) (fun _ h9 => h9) rfl C0.2.2.2.2.2.2.2.2.2 rfl (by decide +kernel) rfl rfl (Nat.le_of_ble_eq_true rfl) dX4_init_41 (fun H locs hP hD hS => ?_)
  have hP : va_P G.1 vwCl [(h_t, .inr (2, [g_t_complete, g_t_near, g_t_second, g_t_third, g_t_growth, .ref h_n5, .ref h_n17, g_t_unsureCount, .ref h_n24, .ref h_n31, g_t_agreedCount, .ref h_n39, g_t_agreedDistances, g_t_agreedLayers])), (h_n5, .inr (6, [.ref u2.1, .ref u2.2, .int (0 : Int32)])), (u2.1, .inl (k_cI G, 5, .inl (fun _ => 0))), (u2.2, .inl (k_cI G, 5, .inl (fun _ => 0))), (h_n17, .inl (k_cJ G, 5, .inr (.inl (fun _ => 0)))), (h_n24, .inl (k_cI G, 4, .inl (fun _ => 0))), (h_n31, .inl (k_cI G, 4, .inl (fun _ => 0))), (h_n39, .inl (k_cI G, 6, .inl (fun _ => 0)))] H := hP
  have hD : va_D A [(h_t, .inr (2, [g_t_complete, g_t_near, g_t_second, g_t_third, g_t_growth, .ref h_n5, .ref h_n17, g_t_unsureCount, .ref h_n24, .ref h_n31, g_t_agreedCount, .ref h_n39, g_t_agreedDistances, g_t_agreedLayers])), (h_n5, .inr (6, [.ref u2.1, .ref u2.2, .int (0 : Int32)])), (u2.1, .inl (k_cI G, 5, .inl (fun _ => 0))), (u2.2, .inl (k_cI G, 5, .inl (fun _ => 0))), (h_n17, .inl (k_cJ G, 5, .inr (.inl (fun _ => 0)))), (h_n24, .inl (k_cI G, 4, .inl (fun _ => 0))), (h_n31, .inl (k_cI G, 4, .inl (fun _ => 0))), (h_n39, .inl (k_cI G, 6, .inl (fun _ => 0)))] := hD
  refine lv_aload_n hx hb dX4_init_44 rfl (lv_at hl 0 rfl) ?_
  refine lv_bipush (v := 6) hx hb dX4_init_45 (by decide) ?_
  refine k_newa (atype := .int) (ty := .int) (a0 := (6, .inl (fun _ => 0))) C0 (hts _ u_X4_init_10) rfl 1 rfl (fun _ h9 => h9) hP hD hS (fun _ => rfl) (by decide) (by decide) (Nat.le_of_ble_eq_true rfl) (Nat.le_of_ble_eq_true rfl) (Nat.le_of_ble_eq_true rfl) dX4_init_47 (fun h_n47 H hP hD hS => ?_)
  have hP : va_P G.1 vwCl [(h_t, .inr (2, [g_t_complete, g_t_near, g_t_second, g_t_third, g_t_growth, .ref h_n5, .ref h_n17, g_t_unsureCount, .ref h_n24, .ref h_n31, g_t_agreedCount, .ref h_n39, g_t_agreedDistances, g_t_agreedLayers])), (h_n5, .inr (6, [.ref u2.1, .ref u2.2, .int (0 : Int32)])), (u2.1, .inl (k_cI G, 5, .inl (fun _ => 0))), (u2.2, .inl (k_cI G, 5, .inl (fun _ => 0))), (h_n17, .inl (k_cJ G, 5, .inr (.inl (fun _ => 0)))), (h_n24, .inl (k_cI G, 4, .inl (fun _ => 0))), (h_n31, .inl (k_cI G, 4, .inl (fun _ => 0))), (h_n39, .inl (k_cI G, 6, .inl (fun _ => 0))), (h_n47, .inl (k_cI G, 6, .inl (fun _ => 0)))] H := hP
  have hD : va_D A [(h_t, .inr (2, [g_t_complete, g_t_near, g_t_second, g_t_third, g_t_growth, .ref h_n5, .ref h_n17, g_t_unsureCount, .ref h_n24, .ref h_n31, g_t_agreedCount, .ref h_n39, g_t_agreedDistances, g_t_agreedLayers])), (h_n5, .inr (6, [.ref u2.1, .ref u2.2, .int (0 : Int32)])), (u2.1, .inl (k_cI G, 5, .inl (fun _ => 0))), (u2.2, .inl (k_cI G, 5, .inl (fun _ => 0))), (h_n17, .inl (k_cJ G, 5, .inr (.inl (fun _ => 0)))), (h_n24, .inl (k_cI G, 4, .inl (fun _ => 0))), (h_n31, .inl (k_cI G, 4, .inl (fun _ => 0))), (h_n39, .inl (k_cI G, 6, .inl (fun _ => 0))), (h_n47, .inl (k_cI G, 6, .inl (fun _ => 0)))] := hD
  refine W.widen (k := 8) (n := 38) (Nat.le_of_ble_eq_true rfl) (Nat.le_of_ble_eq_true rfl) ?_
  refine va_putF (D := G.1) (ci := 2) (v := .ref h_n47) (ty := (tyX4 12)) (C := RX4) (T := TX4) (N := 14) hx hb hts n_X4_init_X4 tyX4 tyX4_ok nmX4 hown hK hP hD hS 0 rfl rfl 12 (by decide) (hts _ u_X4_init_14) (fun _ h9 => h9) rfl C0.2.2.2.2.2.2.2.2.2 rfl (by decide +kernel) rfl rfl (Nat.le_of_ble_eq_true rfl) dX4_init_49 (fun H locs hP hD hS => ?_)
  have hP : va_P G.1 vwCl [(h_t, .inr (2, [g_t_complete, g_t_near, g_t_second, g_t_third, g_t_growth, .ref h_n5, .ref h_n17, g_t_unsureCount, .ref h_n24, .ref h_n31, g_t_agreedCount, .ref h_n39, .ref h_n47, g_t_agreedLayers])), (h_n5, .inr (6, [.ref u2.1, .ref u2.2, .int (0 : Int32)])), (u2.1, .inl (k_cI G, 5, .inl (fun _ => 0))), (u2.2, .inl (k_cI G, 5, .inl (fun _ => 0))), (h_n17, .inl (k_cJ G, 5, .inr (.inl (fun _ => 0)))), (h_n24, .inl (k_cI G, 4, .inl (fun _ => 0))), (h_n31, .inl (k_cI G, 4, .inl (fun _ => 0))), (h_n39, .inl (k_cI G, 6, .inl (fun _ => 0))), (h_n47, .inl (k_cI G, 6, .inl (fun _ => 0)))] H := hP
  have hD : va_D A [(h_t, .inr (2, [g_t_complete, g_t_near, g_t_second, g_t_third, g_t_growth, .ref h_n5, .ref h_n17, g_t_unsureCount, .ref h_n24, .ref h_n31, g_t_agreedCount, .ref h_n39, .ref h_n47, g_t_agreedLayers])), (h_n5, .inr (6, [.ref u2.1, .ref u2.2, .int (0 : Int32)])), (u2.1, .inl (k_cI G, 5, .inl (fun _ => 0))), (u2.2, .inl (k_cI G, 5, .inl (fun _ => 0))), (h_n17, .inl (k_cJ G, 5, .inr (.inl (fun _ => 0)))), (h_n24, .inl (k_cI G, 4, .inl (fun _ => 0))), (h_n31, .inl (k_cI G, 4, .inl (fun _ => 0))), (h_n39, .inl (k_cI G, 6, .inl (fun _ => 0))), (h_n47, .inl (k_cI G, 6, .inl (fun _ => 0)))] := hD
  refine lv_aload_n hx hb dX4_init_52 rfl (lv_at hl 0 rfl) ?_
  refine lv_bipush (v := 6) hx hb dX4_init_53 (by decide) ?_
  refine k_newa (atype := .int) (ty := .int) (a0 := (6, .inl (fun _ => 0))) C0 (hts _ u_X4_init_10) rfl 1 rfl (fun _ h9 => h9) hP hD hS (fun _ => rfl) (by decide) (by decide) (Nat.le_of_ble_eq_true rfl) (Nat.le_of_ble_eq_true rfl) (Nat.le_of_ble_eq_true rfl) dX4_init_55 (fun h_n55 H hP hD hS => ?_)
  have hP : va_P G.1 vwCl [(h_t, .inr (2, [g_t_complete, g_t_near, g_t_second, g_t_third, g_t_growth, .ref h_n5, .ref h_n17, g_t_unsureCount, .ref h_n24, .ref h_n31, g_t_agreedCount, .ref h_n39, .ref h_n47, g_t_agreedLayers])), (h_n5, .inr (6, [.ref u2.1, .ref u2.2, .int (0 : Int32)])), (u2.1, .inl (k_cI G, 5, .inl (fun _ => 0))), (u2.2, .inl (k_cI G, 5, .inl (fun _ => 0))), (h_n17, .inl (k_cJ G, 5, .inr (.inl (fun _ => 0)))), (h_n24, .inl (k_cI G, 4, .inl (fun _ => 0))), (h_n31, .inl (k_cI G, 4, .inl (fun _ => 0))), (h_n39, .inl (k_cI G, 6, .inl (fun _ => 0))), (h_n47, .inl (k_cI G, 6, .inl (fun _ => 0))), (h_n55, .inl (k_cI G, 6, .inl (fun _ => 0)))] H := hP
  have hD : va_D A [(h_t, .inr (2, [g_t_complete, g_t_near, g_t_second, g_t_third, g_t_growth, .ref h_n5, .ref h_n17, g_t_unsureCount, .ref h_n24, .ref h_n31, g_t_agreedCount, .ref h_n39, .ref h_n47, g_t_agreedLayers])), (h_n5, .inr (6, [.ref u2.1, .ref u2.2, .int (0 : Int32)])), (u2.1, .inl (k_cI G, 5, .inl (fun _ => 0))), (u2.2, .inl (k_cI G, 5, .inl (fun _ => 0))), (h_n17, .inl (k_cJ G, 5, .inr (.inl (fun _ => 0)))), (h_n24, .inl (k_cI G, 4, .inl (fun _ => 0))), (h_n31, .inl (k_cI G, 4, .inl (fun _ => 0))), (h_n39, .inl (k_cI G, 6, .inl (fun _ => 0))), (h_n47, .inl (k_cI G, 6, .inl (fun _ => 0))), (h_n55, .inl (k_cI G, 6, .inl (fun _ => 0)))] := hD
  refine W.widen (k := 9) (n := 44) (Nat.le_of_ble_eq_true rfl) (Nat.le_of_ble_eq_true rfl) ?_
  refine va_putF (D := G.1) (ci := 2) (v := .ref h_n55) (ty := (tyX4 13)) (C := RX4) (T := TX4) (N := 14) hx hb hts n_X4_init_X4 tyX4 tyX4_ok nmX4 hown hK hP hD hS 0 rfl rfl 13 (by decide) (hts _ u_X4_init_15) (fun _ h9 => h9) rfl C0.2.2.2.2.2.2.2.2.2 rfl (by decide +kernel) rfl rfl (Nat.le_of_ble_eq_true rfl) dX4_init_57 (fun H locs hP hD hS => ?_)
  have hP : va_P G.1 vwCl [(h_t, .inr (2, [g_t_complete, g_t_near, g_t_second, g_t_third, g_t_growth, .ref h_n5, .ref h_n17, g_t_unsureCount, .ref h_n24, .ref h_n31, g_t_agreedCount, .ref h_n39, .ref h_n47, .ref h_n55])), (h_n5, .inr (6, [.ref u2.1, .ref u2.2, .int (0 : Int32)])), (u2.1, .inl (k_cI G, 5, .inl (fun _ => 0))), (u2.2, .inl (k_cI G, 5, .inl (fun _ => 0))), (h_n17, .inl (k_cJ G, 5, .inr (.inl (fun _ => 0)))), (h_n24, .inl (k_cI G, 4, .inl (fun _ => 0))), (h_n31, .inl (k_cI G, 4, .inl (fun _ => 0))), (h_n39, .inl (k_cI G, 6, .inl (fun _ => 0))), (h_n47, .inl (k_cI G, 6, .inl (fun _ => 0))), (h_n55, .inl (k_cI G, 6, .inl (fun _ => 0)))] H := hP
  have hD : va_D A [(h_t, .inr (2, [g_t_complete, g_t_near, g_t_second, g_t_third, g_t_growth, .ref h_n5, .ref h_n17, g_t_unsureCount, .ref h_n24, .ref h_n31, g_t_agreedCount, .ref h_n39, .ref h_n47, .ref h_n55])), (h_n5, .inr (6, [.ref u2.1, .ref u2.2, .int (0 : Int32)])), (u2.1, .inl (k_cI G, 5, .inl (fun _ => 0))), (u2.2, .inl (k_cI G, 5, .inl (fun _ => 0))), (h_n17, .inl (k_cJ G, 5, .inr (.inl (fun _ => 0)))), (h_n24, .inl (k_cI G, 4, .inl (fun _ => 0))), (h_n31, .inl (k_cI G, 4, .inl (fun _ => 0))), (h_n39, .inl (k_cI G, 6, .inl (fun _ => 0))), (h_n47, .inl (k_cI G, 6, .inl (fun _ => 0))), (h_n55, .inl (k_cI G, 6, .inl (fun _ => 0)))] := hD
  obtain rfl := Option.some.inj hrun
  have hP := hP.sub (ws' := [(h_t, .inr (2, [g_t_complete, g_t_near, g_t_second, g_t_third, g_t_growth, .ref h_n5, .ref h_n17, g_t_unsureCount, .ref h_n24, .ref h_n31, g_t_agreedCount, .ref h_n39, .ref h_n47, .ref h_n55])), (h_n5, .inr (6, [.ref u2.1, .ref u2.2, .int (0 : Int32)])), (h_n17, .inl (k_cJ G, 5, .inr (.inl (fun _ => 0)))), (h_n24, .inl (k_cI G, 4, .inl (fun _ => 0))), (h_n31, .inl (k_cI G, 4, .inl (fun _ => 0))), (h_n39, .inl (k_cI G, 6, .inl (fun _ => 0))), (h_n47, .inl (k_cI G, 6, .inl (fun _ => 0))), (h_n55, .inl (k_cI G, 6, .inl (fun _ => 0))), (u2.1, .inl (k_cI G, 5, .inl (fun _ => 0))), (u2.2, .inl (k_cI G, 5, .inl (fun _ => 0)))]) [0, 1, 4, 5, 6, 7, 8, 9, 2, 3] rfl
  have hD := hD.sub (ws' := [(h_t, .inr (2, [g_t_complete, g_t_near, g_t_second, g_t_third, g_t_growth, .ref h_n5, .ref h_n17, g_t_unsureCount, .ref h_n24, .ref h_n31, g_t_agreedCount, .ref h_n39, .ref h_n47, .ref h_n55])), (h_n5, .inr (6, [.ref u2.1, .ref u2.2, .int (0 : Int32)])), (h_n17, .inl (k_cJ G, 5, .inr (.inl (fun _ => 0)))), (h_n24, .inl (k_cI G, 4, .inl (fun _ => 0))), (h_n31, .inl (k_cI G, 4, .inl (fun _ => 0))), (h_n39, .inl (k_cI G, 6, .inl (fun _ => 0))), (h_n47, .inl (k_cI G, 6, .inl (fun _ => 0))), (h_n55, .inl (k_cI G, 6, .inl (fun _ => 0))), (u2.1, .inl (k_cI G, 5, .inl (fun _ => 0))), (u2.2, .inl (k_cI G, 5, .inl (fun _ => 0)))]) [0, 1, 4, 5, 6, 7, 8, 9, 2, 3] (by decide) rfl
  exact k_retv C0 hP hD hS (h_n5, h_n17, h_n24, h_n31, h_n39, h_n47, h_n55, u2.1, u2.2) rfl dX4_init_60
theorem u_X4_clear_1 : (Cond.fieldLink RX4 38 "ClosePacking$Lab" "complete" "Z") ∈ wsX4_clear := List.mem_of_getElem? (i := 1) (by decide +kernel)
theorem u_X4_clear_2 : (Cond.fieldLink RX4 12 "ClosePacking$Lab" "stacks" "LClosePacking$Stacks;") ∈ wsX4_clear := List.mem_of_getElem? (i := 2) (by decide +kernel)
theorem u_X4_clear_3 : (Cond.fieldLink RX4 46 "ClosePacking$Lab" "unsureCount" "I") ∈ wsX4_clear := List.mem_of_getElem? (i := 3) (by decide +kernel)
theorem u_X4_clear_4 : (Cond.fieldLink RX4 49 "ClosePacking$Lab" "agreedCount" "I") ∈ wsX4_clear := List.mem_of_getElem? (i := 4) (by decide +kernel)
theorem n_X4_clear_X4 : ∀ w ∈ u_ws RX4 TX4 14, w ∈ wsX4_clear := by decide +kernel
theorem n_X4_clear_X9 : ∀ w ∈ u_ws RX9 TX9 3, w ∈ wsX4_clear := by decide +kernel
theorem nw_X4_clear_45 : k_nest[45]? = some (.fieldLinkNest RX4 42 "ClosePacking$Stacks" "count" "I" "ClosePacking") := rfl
abbrev rm_X4_clear : Room := { frames := 0, cells := 0, slots := 0, locals := 0 }
theorem e_X4_clear : yX4_clear.cls = RX4 ∧ yX4_clear.cls ≠ "java/lang/invoke/MethodHandle" ∧ yX4_clear.cls ≠ "java/lang/invoke/VarHandle" ∧ (parseMethodDescriptor yX4_clear.desc).map (fun d => d.parameters.length) = some 0 := by decide +kernel
set_option maxHeartbeats 4000000 in
set_option maxRecDepth 100000 in
theorem c_X4_clear {l : Launch} {G : k_G} {h_t h_t_stacks : Nat} {g_t_near g_t_second g_t_third g_t_growth g_t_names g_t_unsureStacks g_t_unsurePlaces g_t_agreedStacks g_t_agreedDistances g_t_agreedLayers g_t_stacks_rows g_t_stacks_lengths : Value} {sz : Nat} {v_t_agreedCount : Int32} {v_t_complete : Int32} {v_t_unsureCount : Int32} {v_t_stacks_count : Int32} {out : Int32 × Int32 × Int32 × Int32} (hrun : f_X4_clear v_t_agreedCount v_t_complete v_t_unsureCount v_t_stacks_count = some out) : k_Cv l G yX4_clear wsX4_clear rm_X4_clear [.ref h_t] [(h_t, .inr (2, [.int v_t_complete, g_t_near, g_t_second, g_t_third, g_t_growth, .ref h_t_stacks, g_t_names, .int v_t_unsureCount, g_t_unsureStacks, g_t_unsurePlaces, .int v_t_agreedCount, g_t_agreedStacks, g_t_agreedDistances, g_t_agreedLayers])), (h_t_stacks, .inr (6, [g_t_stacks_rows, g_t_stacks_lengths, .int v_t_stacks_count]))] sz (fun (_ : Unit) => [(h_t, .inr (2, [.int out.2.1, g_t_near, g_t_second, g_t_third, g_t_growth, .ref h_t_stacks, g_t_names, .int out.2.2.1, g_t_unsureStacks, g_t_unsurePlaces, .int out.1, g_t_agreedStacks, g_t_agreedDistances, g_t_agreedLayers])), (h_t_stacks, .inr (6, [g_t_stacks_rows, g_t_stacks_lengths, .int out.2.2.2]))]) 0 0 := by
  refine k_of (cc := cX4_clear) (nL := 1) (ret := none) (own := RX4) (nm := "clear") (by decide) rfl rfl rfl rfl ?_
  intro p e s m args below meth c ls hsz C0 hP hD hS hl
  have hl : lv_has ls 1 [(0, .ref h_t)] := hl
  generalize hH : s.heap = H at hP
  have hS : va_S (va_A [(h_t, .inr (2, [.int v_t_complete, g_t_near, g_t_second, g_t_third, g_t_growth, .ref h_t_stacks, g_t_names, .int v_t_unsureCount, g_t_unsureStacks, g_t_unsurePlaces, .int v_t_agreedCount, g_t_agreedStacks, g_t_agreedDistances, g_t_agreedLayers])), (h_t_stacks, .inr (6, [g_t_stacks_rows, g_t_stacks_lengths, .int v_t_stacks_count]))] sz) s.heap H [] := by rw [← hH]; exact hS
  clear hH
  generalize va_A [(h_t, .inr (2, [.int v_t_complete, g_t_near, g_t_second, g_t_third, g_t_growth, .ref h_t_stacks, g_t_names, .int v_t_unsureCount, g_t_unsureStacks, g_t_unsurePlaces, .int v_t_agreedCount, g_t_agreedStacks, g_t_agreedDistances, g_t_agreedLayers])), (h_t_stacks, .inr (6, [g_t_stacks_rows, g_t_stacks_lengths, .int v_t_stacks_count]))] sz = A at C0 hD hS ⊢
  have hx := C0.1
  have hb := C0.2.1
  have hts := C0.2.2.2.1
  have hown := C0.2.2.2.2.1
  have hK := C0.2.2.2.2.2.2.2.2.1.1
  have hNW := C0.2.2.2.2.2.2.2.2.1.2.1
  have hSF := C0.2.2.2.2.2.2.2.2.1.2.2
  rw [f_X4_clear] at hrun
  refine lv_aload_n hx hb dX4_clear_0 rfl (lv_at hl 0 rfl) ?_
  refine lv_iconst (v := 0) hx hb dX4_clear_1 (by decide) ?_
  refine va_put (D := G.1) (ci := 2) (v := .int (0 : Int32)) (ty := .boolean) (C := RX4) (T := TX4) (N := 14) hx hb hts n_X4_clear_X4 tyX4 tyX4_ok nmX4 hown hK hP hD hS 0 rfl rfl 0 (by decide) (hts _ u_X4_clear_1) (fun _ h9 => h9) rfl (by decide +kernel) rfl rfl (Nat.le_of_ble_eq_true rfl) dX4_clear_2 (fun H locs hP hD hS => ?_)
  have hP : va_P G.1 vwCl [(h_t, .inr (2, [.int (0 : Int32), g_t_near, g_t_second, g_t_third, g_t_growth, .ref h_t_stacks, g_t_names, .int v_t_unsureCount, g_t_unsureStacks, g_t_unsurePlaces, .int v_t_agreedCount, g_t_agreedStacks, g_t_agreedDistances, g_t_agreedLayers])), (h_t_stacks, .inr (6, [g_t_stacks_rows, g_t_stacks_lengths, .int v_t_stacks_count]))] H := hP
  have hD : va_D A [(h_t, .inr (2, [.int (0 : Int32), g_t_near, g_t_second, g_t_third, g_t_growth, .ref h_t_stacks, g_t_names, .int v_t_unsureCount, g_t_unsureStacks, g_t_unsurePlaces, .int v_t_agreedCount, g_t_agreedStacks, g_t_agreedDistances, g_t_agreedLayers])), (h_t_stacks, .inr (6, [g_t_stacks_rows, g_t_stacks_lengths, .int v_t_stacks_count]))] := hD
  refine lv_aload_n hx hb dX4_clear_5 rfl (lv_at hl 0 rfl) ?_
  refine va_get (D := G.1) (ci := 2) (v := .ref h_t_stacks) (C := RX4) (T := TX4) (N := 14) hx hb hts n_X4_clear_X4 hown hK hP 0 rfl rfl 5 (by decide) (hts _ u_X4_clear_2) (fun _ h9 => h9) rfl dX4_clear_6 ?_
  refine lv_iconst (v := 0) hx hb dX4_clear_9 (by decide) ?_
  refine va_putN (D := G.1) (ci := 6) (v := .int (0 : Int32)) (ty := .int) (C := RX9) (T := TX9) (N := 3) hx hb hts n_X4_clear_X9 tyX9 tyX9_ok nmX9 hown hK hP hD hS 1 rfl rfl 2 (by decide) (va_Nw.use rfl (k_nw hNW 45 nw_X4_clear_45)) (fun _ h9 => h9) rfl (by decide +kernel) rfl rfl (Nat.le_of_ble_eq_true rfl) dX4_clear_10 (fun H locs hP hD hS => ?_)
  have hP : va_P G.1 vwCl [(h_t, .inr (2, [.int (0 : Int32), g_t_near, g_t_second, g_t_third, g_t_growth, .ref h_t_stacks, g_t_names, .int v_t_unsureCount, g_t_unsureStacks, g_t_unsurePlaces, .int v_t_agreedCount, g_t_agreedStacks, g_t_agreedDistances, g_t_agreedLayers])), (h_t_stacks, .inr (6, [g_t_stacks_rows, g_t_stacks_lengths, .int (0 : Int32)]))] H := hP
  have hD : va_D A [(h_t, .inr (2, [.int (0 : Int32), g_t_near, g_t_second, g_t_third, g_t_growth, .ref h_t_stacks, g_t_names, .int v_t_unsureCount, g_t_unsureStacks, g_t_unsurePlaces, .int v_t_agreedCount, g_t_agreedStacks, g_t_agreedDistances, g_t_agreedLayers])), (h_t_stacks, .inr (6, [g_t_stacks_rows, g_t_stacks_lengths, .int (0 : Int32)]))] := hD
  refine lv_aload_n hx hb dX4_clear_13 rfl (lv_at hl 0 rfl) ?_
  refine lv_iconst (v := 0) hx hb dX4_clear_14 (by decide) ?_
  refine va_put (D := G.1) (ci := 2) (v := .int (0 : Int32)) (ty := .int) (C := RX4) (T := TX4) (N := 14) hx hb hts n_X4_clear_X4 tyX4 tyX4_ok nmX4 hown hK hP hD hS 0 rfl rfl 7 (by decide) (hts _ u_X4_clear_3) (fun _ h9 => h9) rfl (by decide +kernel) rfl rfl (Nat.le_of_ble_eq_true rfl) dX4_clear_15 (fun H locs hP hD hS => ?_)
  have hP : va_P G.1 vwCl [(h_t, .inr (2, [.int (0 : Int32), g_t_near, g_t_second, g_t_third, g_t_growth, .ref h_t_stacks, g_t_names, .int (0 : Int32), g_t_unsureStacks, g_t_unsurePlaces, .int v_t_agreedCount, g_t_agreedStacks, g_t_agreedDistances, g_t_agreedLayers])), (h_t_stacks, .inr (6, [g_t_stacks_rows, g_t_stacks_lengths, .int (0 : Int32)]))] H := hP
  have hD : va_D A [(h_t, .inr (2, [.int (0 : Int32), g_t_near, g_t_second, g_t_third, g_t_growth, .ref h_t_stacks, g_t_names, .int (0 : Int32), g_t_unsureStacks, g_t_unsurePlaces, .int v_t_agreedCount, g_t_agreedStacks, g_t_agreedDistances, g_t_agreedLayers])), (h_t_stacks, .inr (6, [g_t_stacks_rows, g_t_stacks_lengths, .int (0 : Int32)]))] := hD
  refine lv_aload_n hx hb dX4_clear_18 rfl (lv_at hl 0 rfl) ?_
  refine lv_iconst (v := 0) hx hb dX4_clear_19 (by decide) ?_
  refine va_put (D := G.1) (ci := 2) (v := .int (0 : Int32)) (ty := .int) (C := RX4) (T := TX4) (N := 14) hx hb hts n_X4_clear_X4 tyX4 tyX4_ok nmX4 hown hK hP hD hS 0 rfl rfl 10 (by decide) (hts _ u_X4_clear_4) (fun _ h9 => h9) rfl (by decide +kernel) rfl rfl (Nat.le_of_ble_eq_true rfl) dX4_clear_20 (fun H locs hP hD hS => ?_)
  have hP : va_P G.1 vwCl [(h_t, .inr (2, [.int (0 : Int32), g_t_near, g_t_second, g_t_third, g_t_growth, .ref h_t_stacks, g_t_names, .int (0 : Int32), g_t_unsureStacks, g_t_unsurePlaces, .int (0 : Int32), g_t_agreedStacks, g_t_agreedDistances, g_t_agreedLayers])), (h_t_stacks, .inr (6, [g_t_stacks_rows, g_t_stacks_lengths, .int (0 : Int32)]))] H := hP
  have hD : va_D A [(h_t, .inr (2, [.int (0 : Int32), g_t_near, g_t_second, g_t_third, g_t_growth, .ref h_t_stacks, g_t_names, .int (0 : Int32), g_t_unsureStacks, g_t_unsurePlaces, .int (0 : Int32), g_t_agreedStacks, g_t_agreedDistances, g_t_agreedLayers])), (h_t_stacks, .inr (6, [g_t_stacks_rows, g_t_stacks_lengths, .int (0 : Int32)]))] := hD
  obtain rfl := Option.some.inj hrun
  exact k_retv C0 hP hD hS () rfl dX4_clear_23
theorem u_X4_stackNamed_1 : (Cond.fieldLink RX4 12 "ClosePacking$Lab" "stacks" "LClosePacking$Stacks;") ∈ wsX4_stackNamed := List.mem_of_getElem? (i := 1) (by decide +kernel)
theorem u_X4_stackNamed_2 : (Cond.fieldLink RX4 18 "ClosePacking$Lab" "names" "[J") ∈ wsX4_stackNamed := List.mem_of_getElem? (i := 2) (by decide +kernel)
theorem n_X4_stackNamed_X4 : ∀ w ∈ u_ws RX4 TX4 14, w ∈ wsX4_stackNamed := by decide +kernel
theorem n_X4_stackNamed_X9 : ∀ w ∈ u_ws RX9 TX9 3, w ∈ wsX4_stackNamed := by decide +kernel
theorem nw_X4_stackNamed_45 : k_nest[45]? = some (.fieldLinkNest RX4 42 "ClosePacking$Stacks" "count" "I" "ClosePacking") := rfl
abbrev rm_X4_stackNamed : Room := { frames := 0, cells := 0, slots := 0, locals := 0 }
theorem e_X4_stackNamed : yX4_stackNamed.cls = RX4 ∧ yX4_stackNamed.cls ≠ "java/lang/invoke/MethodHandle" ∧ yX4_stackNamed.cls ≠ "java/lang/invoke/VarHandle" ∧ (parseMethodDescriptor yX4_stackNamed.desc).map (fun d => d.parameters.length) = some 1 := by decide +kernel
set_option maxHeartbeats 4000000 in
set_option maxRecDepth 100000 in
theorem t_X4_stackNamed_2 {l : Launch} {G : k_G} {p : Program} {e : Env} {s : State} {m : MethodId} {args : Array Value} {below : List Frame} {meth : Method} {c : Code} {A : Nat → Prop} {h_t h_t_names h_t_stacks : Nat} {g_t_complete g_t_near g_t_second g_t_third g_t_growth g_t_unsureCount g_t_unsureStacks g_t_unsurePlaces g_t_agreedCount g_t_agreedStacks g_t_agreedDistances g_t_agreedLayers g_t_stacks_rows g_t_stacks_lengths : Value} {out : Int32} (C0 : k_C G p s m args meth c A cX4_stackNamed RX4 wsX4_stackNamed 4 (some .int) "stackNamed") : ∀ (n : Nat) (x1 : Int64) (x3 : Int32) (v_t_stacks_count : Int32) (w_t_names : Nat → Int64) (H : Heap) (locs : List Loc) (ls : Array Slot), va_P G.1 vwCl [(h_t, .inr (2, [g_t_complete, g_t_near, g_t_second, g_t_third, g_t_growth, .ref h_t_stacks, .ref h_t_names, g_t_unsureCount, g_t_unsureStacks, g_t_unsurePlaces, g_t_agreedCount, g_t_agreedStacks, g_t_agreedDistances, g_t_agreedLayers])), (h_t_names, .inl (k_cJ G, 5, .inr (.inl w_t_names))), (h_t_stacks, .inr (6, [g_t_stacks_rows, g_t_stacks_lengths, .int v_t_stacks_count]))] H → va_D A [(h_t, .inr (2, [g_t_complete, g_t_near, g_t_second, g_t_third, g_t_growth, .ref h_t_stacks, .ref h_t_names, g_t_unsureCount, g_t_unsureStacks, g_t_unsurePlaces, g_t_agreedCount, g_t_agreedStacks, g_t_agreedDistances, g_t_agreedLayers])), (h_t_names, .inl (k_cJ G, 5, .inr (.inl w_t_names))), (h_t_stacks, .inr (6, [g_t_stacks_rows, g_t_stacks_lengths, .int v_t_stacks_count]))] → va_S A s.heap H locs → lv_has ls 4 [(0, .ref h_t), (1, .long x1), (3, .int x3)] → f_X4_stackNamed_2 n x1 x3 v_t_stacks_count w_t_names = some out → W p l e rm_X4_stackNamed s m args below meth c H locs 0 0 (MQ below (k_Qi G A out (fun (_ : Unit) => [(h_t, .inr (2, [g_t_complete, g_t_near, g_t_second, g_t_third, g_t_growth, .ref h_t_stacks, .ref h_t_names, g_t_unsureCount, g_t_unsureStacks, g_t_unsurePlaces, g_t_agreedCount, g_t_agreedStacks, g_t_agreedDistances, g_t_agreedLayers])), (h_t_names, .inl (k_cJ G, 5, .inr (.inl w_t_names))), (h_t_stacks, .inr (6, [g_t_stacks_rows, g_t_stacks_lengths, .int v_t_stacks_count]))])) args s 0 0 A) (F0 m 2 ls []) := by
  have hx := C0.1
  have hb := C0.2.1
  have hts := C0.2.2.2.1
  have hown := C0.2.2.2.2.1
  have hK := C0.2.2.2.2.2.2.2.2.1.1
  have hNW := C0.2.2.2.2.2.2.2.2.1.2.1
  have hSF := C0.2.2.2.2.2.2.2.2.1.2.2
  intro n
  induction n with
  | zero =>
    intro x1 x3 v_t_stacks_count w_t_names H locs ls hP hD hS hl hrun
    rw [f_X4_stackNamed_2] at hrun
    cases hrun
  | succ n ih =>
    intro x1 x3 v_t_stacks_count w_t_names H locs ls hP hD hS hl hrun
    rw [f_X4_stackNamed_2] at hrun
    refine lv_iload_n hx hb dX4_stackNamed_2 rfl (lv_at hl 2 rfl) ?_
    refine lv_aload_n hx hb dX4_stackNamed_3 rfl (lv_at hl 0 rfl) ?_
    refine va_get (D := G.1) (ci := 2) (v := .ref h_t_stacks) (C := RX4) (T := TX4) (N := 14) hx hb hts n_X4_stackNamed_X4 hown hK hP 0 rfl rfl 5 (by decide) (hts _ u_X4_stackNamed_1) (fun _ h9 => h9) rfl dX4_stackNamed_4 ?_
    refine va_getN (D := G.1) (ci := 6) (v := .int v_t_stacks_count) (C := RX9) (T := TX9) (N := 3) hx hb hts n_X4_stackNamed_X9 hown hK hP 2 rfl rfl 2 (by decide) (va_Nw.use rfl (k_nw hNW 45 nw_X4_stackNamed_45)) (fun _ h9 => h9) rfl dX4_stackNamed_7 ?_
    refine lv_icmp_ge (tgt := 41) hx hb dX4_stackNamed_10 (by decide) (fun q1 => ?_) (fun q1 => ?_)
    · replace hrun := if_t q1 hrun
      refine lv_iconst (v := -1) hx hb dX4_stackNamed_41 (by decide) ?_
      obtain rfl := Option.some.inj hrun
      exact k_reti C0 hP hD hS () rfl rfl dX4_stackNamed_42
    · replace hrun := if_f q1 hrun
      refine lv_iload_n hx hb dX4_stackNamed_13 rfl (lv_at hl 2 rfl) ?_
      refine lv_aload_n hx hb dX4_stackNamed_14 rfl (lv_at hl 0 rfl) ?_
      refine va_get (D := G.1) (ci := 2) (v := .ref h_t_names) (C := RX4) (T := TX4) (N := 14) hx hb hts n_X4_stackNamed_X4 hown hK hP 0 rfl rfl 6 (by decide) (hts _ u_X4_stackNamed_2) (fun _ h9 => h9) rfl dX4_stackNamed_15 ?_
      refine va_alen (v := (5 : Int32)) hx hb hK hP 1 2 rfl rfl rfl dX4_stackNamed_18 ?_
      refine lv_icmp_ge (tgt := 41) hx hb dX4_stackNamed_19 (by decide) (fun q2 => ?_) (fun q2 => ?_)
      · replace hrun := if_t q2 hrun
        refine lv_iconst (v := -1) hx hb dX4_stackNamed_41 (by decide) ?_
        obtain rfl := Option.some.inj hrun
        exact k_reti C0 hP hD hS () rfl rfl dX4_stackNamed_42
      · replace hrun := if_f q2 hrun
        refine lv_aload_n hx hb dX4_stackNamed_22 rfl (lv_at hl 0 rfl) ?_
        refine va_get (D := G.1) (ci := 2) (v := .ref h_t_names) (C := RX4) (T := TX4) (N := 14) hx hb hts n_X4_stackNamed_X4 hown hK hP 0 rfl rfl 6 (by decide) (hts _ u_X4_stackNamed_2) (fun _ h9 => h9) rfl dX4_stackNamed_23 ?_
        refine lv_iload_n hx hb dX4_stackNamed_26 rfl (lv_at hl 2 rfl) ?_
        obtain ⟨gz3, hrun⟩ := gd_inv hrun
        refine va_lald hx hb hK hP 1 2 rfl rfl gz3 dX4_stackNamed_27 ?_
        refine lv_lload_n hx hb dX4_stackNamed_28 rfl (lv_at hl 1 rfl) ?_
        refine W.lcmp hx hb dX4_stackNamed_29 ?_
        refine lv_if_ne (tgt := 35) hx hb dX4_stackNamed_30 (by decide) (fun q4 => ?_) (fun q4 => ?_)
        · replace hrun := if_f q4 hrun
          refine lv_iinc (v := x3 + 1) (lv' := [(3, .int (x3 + 1)), (0, .ref h_t), (1, .long x1)]) hx hb dX4_stackNamed_35 hl (k := 2) rfl rfl (by decide) rfl (fun ls hl => ?_)
          refine lv_goto (tgt := 2) hx hb dX4_stackNamed_38 (by decide) ?_
          exact ih x1 (x3 + 1) v_t_stacks_count w_t_names _ _ _ hP hD hS (lv_sub hl [1, 2, 0] rfl) hrun
        · replace hrun := if_t q4 hrun
          refine lv_iload_n hx hb dX4_stackNamed_33 rfl (lv_at hl 2 rfl) ?_
          obtain rfl := Option.some.inj hrun
          exact k_reti C0 hP hD hS () rfl rfl dX4_stackNamed_34
set_option maxHeartbeats 4000000 in
set_option maxRecDepth 100000 in
theorem c_X4_stackNamed {l : Launch} {G : k_G} {h_t h_t_names h_t_stacks : Nat} {g_t_complete g_t_near g_t_second g_t_third g_t_growth g_t_unsureCount g_t_unsureStacks g_t_unsurePlaces g_t_agreedCount g_t_agreedStacks g_t_agreedDistances g_t_agreedLayers g_t_stacks_rows g_t_stacks_lengths : Value} {sz : Nat} {p1 : Int64} {v_t_stacks_count : Int32} {w_t_names : Nat → Int64} {out : Int32} (hrun : f_X4_stackNamed p1 v_t_stacks_count w_t_names = some out) : k_Ci l G yX4_stackNamed wsX4_stackNamed rm_X4_stackNamed [.ref h_t, .long p1] [(h_t, .inr (2, [g_t_complete, g_t_near, g_t_second, g_t_third, g_t_growth, .ref h_t_stacks, .ref h_t_names, g_t_unsureCount, g_t_unsureStacks, g_t_unsurePlaces, g_t_agreedCount, g_t_agreedStacks, g_t_agreedDistances, g_t_agreedLayers])), (h_t_names, .inl (k_cJ G, 5, .inr (.inl w_t_names))), (h_t_stacks, .inr (6, [g_t_stacks_rows, g_t_stacks_lengths, .int v_t_stacks_count]))] sz out (fun (_ : Unit) => [(h_t, .inr (2, [g_t_complete, g_t_near, g_t_second, g_t_third, g_t_growth, .ref h_t_stacks, .ref h_t_names, g_t_unsureCount, g_t_unsureStacks, g_t_unsurePlaces, g_t_agreedCount, g_t_agreedStacks, g_t_agreedDistances, g_t_agreedLayers])), (h_t_names, .inl (k_cJ G, 5, .inr (.inl w_t_names))), (h_t_stacks, .inr (6, [g_t_stacks_rows, g_t_stacks_lengths, .int v_t_stacks_count]))]) 0 0 := by
  refine k_of (cc := cX4_stackNamed) (nL := 4) (ret := some .int) (own := RX4) (nm := "stackNamed") (by decide) rfl rfl rfl rfl ?_
  intro p e s m args below meth c ls hsz C0 hP hD hS hl
  have hl : lv_has ls 4 [(0, .ref h_t), (1, .long p1)] := hl
  generalize hH : s.heap = H at hP
  have hS : va_S (va_A [(h_t, .inr (2, [g_t_complete, g_t_near, g_t_second, g_t_third, g_t_growth, .ref h_t_stacks, .ref h_t_names, g_t_unsureCount, g_t_unsureStacks, g_t_unsurePlaces, g_t_agreedCount, g_t_agreedStacks, g_t_agreedDistances, g_t_agreedLayers])), (h_t_names, .inl (k_cJ G, 5, .inr (.inl w_t_names))), (h_t_stacks, .inr (6, [g_t_stacks_rows, g_t_stacks_lengths, .int v_t_stacks_count]))] sz) s.heap H [] := by rw [← hH]; exact hS
  clear hH
  generalize va_A [(h_t, .inr (2, [g_t_complete, g_t_near, g_t_second, g_t_third, g_t_growth, .ref h_t_stacks, .ref h_t_names, g_t_unsureCount, g_t_unsureStacks, g_t_unsurePlaces, g_t_agreedCount, g_t_agreedStacks, g_t_agreedDistances, g_t_agreedLayers])), (h_t_names, .inl (k_cJ G, 5, .inr (.inl w_t_names))), (h_t_stacks, .inr (6, [g_t_stacks_rows, g_t_stacks_lengths, .int v_t_stacks_count]))] sz = A at C0 hD hS ⊢
  have hx := C0.1
  have hb := C0.2.1
  have hts := C0.2.2.2.1
  have hown := C0.2.2.2.2.1
  have hK := C0.2.2.2.2.2.2.2.2.1.1
  have hNW := C0.2.2.2.2.2.2.2.2.1.2.1
  have hSF := C0.2.2.2.2.2.2.2.2.1.2.2
  rw [f_X4_stackNamed] at hrun
  refine lv_iconst (v := 0) hx hb dX4_stackNamed_0 (by decide) ?_
  refine lv_istore_n (lv' := [(3, .int (0 : Int32)), (0, .ref h_t), (1, .long p1)]) hx hb dX4_stackNamed_1 rfl hl (by decide) rfl (fun ls hl => ?_)
  exact t_X4_stackNamed_2 C0 kFU p1 (0 : Int32) v_t_stacks_count w_t_names _ _ _ hP hD hS (lv_sub hl [1, 2, 0] rfl) hrun
theorem u_X4_addStack_1 : (Cond.fieldLink RX4 12 "ClosePacking$Lab" "stacks" "LClosePacking$Stacks;") ∈ wsX4_addStack := List.mem_of_getElem? (i := 1) (by decide +kernel)
theorem u_X4_addStack_2 : (Cond.fieldLink RX4 18 "ClosePacking$Lab" "names" "[J") ∈ wsX4_addStack := List.mem_of_getElem? (i := 2) (by decide +kernel)
theorem n_X4_addStack_X4 : ∀ w ∈ u_ws RX4 TX4 14, w ∈ wsX4_addStack := by decide +kernel
theorem n_X4_addStack_X9 : ∀ w ∈ u_ws RX9 TX9 3, w ∈ wsX4_addStack := by decide +kernel
theorem nw_X4_addStack_45 : k_nest[45]? = some (.fieldLinkNest RX4 42 "ClosePacking$Stacks" "count" "I" "ClosePacking") := rfl
abbrev rm_X4_addStack : Room := { frames := 2, cells := 0, slots := 0, locals := 45 }
theorem e_X4_addStack : yX4_addStack.cls = RX4 ∧ yX4_addStack.cls ≠ "java/lang/invoke/MethodHandle" ∧ yX4_addStack.cls ≠ "java/lang/invoke/VarHandle" ∧ (parseMethodDescriptor yX4_addStack.desc).map (fun d => d.parameters.length) = some 3 := by decide +kernel
set_option maxHeartbeats 4000000 in
set_option maxRecDepth 100000 in
theorem c_X4_addStack {l : Launch} {G : k_G} {h_t h_t_names h_t_stacks h_t_stacks_lengths h_t_stacks_rows : Nat} {g_t_complete g_t_near g_t_second g_t_third g_t_growth g_t_unsureCount g_t_unsureStacks g_t_unsurePlaces g_t_agreedCount g_t_agreedStacks g_t_agreedDistances g_t_agreedLayers : Value} {sz : Nat} {p1 : Int64} {p3 : Int32} {p4 : Int32} {v_t_stacks_count : Int32} {w_t_names : Nat → Int64} {w_t_stacks_lengths : Nat → Int32} {w_t_stacks_rows : Nat → Int32} {out : Int32 × (Nat → Int64) × (Nat → Int32) × (Nat → Int32)} (hrun : f_X4_addStack p1 p3 p4 v_t_stacks_count w_t_names w_t_stacks_lengths w_t_stacks_rows = some out) : k_Cv l G yX4_addStack wsX4_addStack rm_X4_addStack [.ref h_t, .long p1, .int p3, .int p4] [(h_t, .inr (2, [g_t_complete, g_t_near, g_t_second, g_t_third, g_t_growth, .ref h_t_stacks, .ref h_t_names, g_t_unsureCount, g_t_unsureStacks, g_t_unsurePlaces, g_t_agreedCount, g_t_agreedStacks, g_t_agreedDistances, g_t_agreedLayers])), (h_t_names, .inl (k_cJ G, 5, .inr (.inl w_t_names))), (h_t_stacks, .inr (6, [.ref h_t_stacks_rows, .ref h_t_stacks_lengths, .int v_t_stacks_count])), (h_t_stacks_lengths, .inl (k_cI G, 5, .inl w_t_stacks_lengths)), (h_t_stacks_rows, .inl (k_cI G, 5, .inl w_t_stacks_rows))] sz (fun (_ : Unit) => [(h_t, .inr (2, [g_t_complete, g_t_near, g_t_second, g_t_third, g_t_growth, .ref h_t_stacks, .ref h_t_names, g_t_unsureCount, g_t_unsureStacks, g_t_unsurePlaces, g_t_agreedCount, g_t_agreedStacks, g_t_agreedDistances, g_t_agreedLayers])), (h_t_names, .inl (k_cJ G, 5, .inr (.inl out.2.1))), (h_t_stacks, .inr (6, [.ref h_t_stacks_rows, .ref h_t_stacks_lengths, .int out.1])), (h_t_stacks_lengths, .inl (k_cI G, 5, .inl out.2.2.1)), (h_t_stacks_rows, .inl (k_cI G, 5, .inl out.2.2.2))]) 0 0 := by
  refine k_of (cc := cX4_addStack) (nL := 6) (ret := none) (own := RX4) (nm := "addStack") (by decide) rfl rfl rfl rfl ?_
  intro p e s m args below meth c ls hsz C0 hP hD hS hl
  have hl : lv_has ls 6 [(0, .ref h_t), (1, .long p1), (3, .int p3), (4, .int p4)] := hl
  generalize hH : s.heap = H at hP
  have hS : va_S (va_A [(h_t, .inr (2, [g_t_complete, g_t_near, g_t_second, g_t_third, g_t_growth, .ref h_t_stacks, .ref h_t_names, g_t_unsureCount, g_t_unsureStacks, g_t_unsurePlaces, g_t_agreedCount, g_t_agreedStacks, g_t_agreedDistances, g_t_agreedLayers])), (h_t_names, .inl (k_cJ G, 5, .inr (.inl w_t_names))), (h_t_stacks, .inr (6, [.ref h_t_stacks_rows, .ref h_t_stacks_lengths, .int v_t_stacks_count])), (h_t_stacks_lengths, .inl (k_cI G, 5, .inl w_t_stacks_lengths)), (h_t_stacks_rows, .inl (k_cI G, 5, .inl w_t_stacks_rows))] sz) s.heap H [] := by rw [← hH]; exact hS
  clear hH
  generalize va_A [(h_t, .inr (2, [g_t_complete, g_t_near, g_t_second, g_t_third, g_t_growth, .ref h_t_stacks, .ref h_t_names, g_t_unsureCount, g_t_unsureStacks, g_t_unsurePlaces, g_t_agreedCount, g_t_agreedStacks, g_t_agreedDistances, g_t_agreedLayers])), (h_t_names, .inl (k_cJ G, 5, .inr (.inl w_t_names))), (h_t_stacks, .inr (6, [.ref h_t_stacks_rows, .ref h_t_stacks_lengths, .int v_t_stacks_count])), (h_t_stacks_lengths, .inl (k_cI G, 5, .inl w_t_stacks_lengths)), (h_t_stacks_rows, .inl (k_cI G, 5, .inl w_t_stacks_rows))] sz = A at C0 hD hS ⊢
  have hx := C0.1
  have hb := C0.2.1
  have hts := C0.2.2.2.1
  have hown := C0.2.2.2.2.1
  have hK := C0.2.2.2.2.2.2.2.2.1.1
  have hNW := C0.2.2.2.2.2.2.2.2.1.2.1
  have hSF := C0.2.2.2.2.2.2.2.2.1.2.2
  rw [f_X4_addStack] at hrun
  refine lv_aload_n hx hb dX4_addStack_0 rfl (lv_at hl 0 rfl) ?_
  refine va_get (D := G.1) (ci := 2) (v := .ref h_t_stacks) (C := RX4) (T := TX4) (N := 14) hx hb hts n_X4_addStack_X4 hown hK hP 0 rfl rfl 5 (by decide) (hts _ u_X4_addStack_1) (fun _ h9 => h9) rfl dX4_addStack_1 ?_
  refine va_getN (D := G.1) (ci := 6) (v := .int v_t_stacks_count) (C := RX9) (T := TX9) (N := 3) hx hb hts n_X4_addStack_X9 hown hK hP 2 rfl rfl 2 (by decide) (va_Nw.use rfl (k_nw hNW 45 nw_X4_addStack_45)) (fun _ h9 => h9) rfl dX4_addStack_4 ?_
  refine lv_istore (lv' := [(5, .int v_t_stacks_count), (0, .ref h_t), (1, .long p1), (3, .int p3), (4, .int p4)]) hx hb dX4_addStack_7 hl (by decide) rfl (fun ls hl => ?_)
  refine lv_iload hx hb dX4_addStack_9 (lv_at hl 0 rfl) ?_
  refine lv_if_lt (tgt := 57) hx hb dX4_addStack_11 (by decide) (fun q1 => ?_) (fun q1 => ?_)
  · replace hrun := if_t q1 hrun
    obtain rfl := Option.some.inj hrun
    exact k_retv C0 hP hD hS () rfl dX4_addStack_57
  · replace hrun := if_f q1 hrun
    refine lv_iload hx hb dX4_addStack_14 (lv_at hl 0 rfl) ?_
    refine lv_aload_n hx hb dX4_addStack_16 rfl (lv_at hl 1 rfl) ?_
    refine va_get (D := G.1) (ci := 2) (v := .ref h_t_names) (C := RX4) (T := TX4) (N := 14) hx hb hts n_X4_addStack_X4 hown hK hP 0 rfl rfl 6 (by decide) (hts _ u_X4_addStack_2) (fun _ h9 => h9) rfl dX4_addStack_17 ?_
    refine va_alen (v := (5 : Int32)) hx hb hK hP 1 2 rfl rfl rfl dX4_addStack_20 ?_
    refine lv_icmp_ge (tgt := 57) hx hb dX4_addStack_21 (by decide) (fun q2 => ?_) (fun q2 => ?_)
    · replace hrun := if_t q2 hrun
      obtain rfl := Option.some.inj hrun
      exact k_retv C0 hP hD hS () rfl dX4_addStack_57
    · replace hrun := if_f q2 hrun
      refine lv_aload_n hx hb dX4_addStack_24 rfl (lv_at hl 1 rfl) ?_
      refine va_get (D := G.1) (ci := 2) (v := .ref h_t_names) (C := RX4) (T := TX4) (N := 14) hx hb hts n_X4_addStack_X4 hown hK hP 0 rfl rfl 6 (by decide) (hts _ u_X4_addStack_2) (fun _ h9 => h9) rfl dX4_addStack_25 ?_
      refine lv_iload hx hb dX4_addStack_28 (lv_at hl 0 rfl) ?_
      refine lv_lload_n hx hb dX4_addStack_30 rfl (lv_at hl 2 rfl) ?_
      obtain ⟨gz3, hrun⟩ := gd_inv hrun
      obtain ⟨w4, ew, hrun⟩ := lt_inv hrun
      refine va_last hx hb hK hP hD hS 1 2 rfl rfl gz3 dX4_addStack_31 (fun H locs hP hD hS => ?_)
      have hP : va_P G.1 vwCl [(h_t, .inr (2, [g_t_complete, g_t_near, g_t_second, g_t_third, g_t_growth, .ref h_t_stacks, .ref h_t_names, g_t_unsureCount, g_t_unsureStacks, g_t_unsurePlaces, g_t_agreedCount, g_t_agreedStacks, g_t_agreedDistances, g_t_agreedLayers])), (h_t_names, .inl (k_cJ G, 5, .inr (.inl w4))), (h_t_stacks, .inr (6, [.ref h_t_stacks_rows, .ref h_t_stacks_lengths, .int v_t_stacks_count])), (h_t_stacks_lengths, .inl (k_cI G, 5, .inl w_t_stacks_lengths)), (h_t_stacks_rows, .inl (k_cI G, 5, .inl w_t_stacks_rows))] H := by rw [ew]; exact hP
      have hD : va_D A [(h_t, .inr (2, [g_t_complete, g_t_near, g_t_second, g_t_third, g_t_growth, .ref h_t_stacks, .ref h_t_names, g_t_unsureCount, g_t_unsureStacks, g_t_unsurePlaces, g_t_agreedCount, g_t_agreedStacks, g_t_agreedDistances, g_t_agreedLayers])), (h_t_names, .inl (k_cJ G, 5, .inr (.inl w4))), (h_t_stacks, .inr (6, [.ref h_t_stacks_rows, .ref h_t_stacks_lengths, .int v_t_stacks_count])), (h_t_stacks_lengths, .inl (k_cI G, 5, .inl w_t_stacks_lengths)), (h_t_stacks_rows, .inl (k_cI G, 5, .inl w_t_stacks_rows))] := by rw [ew]; exact hD
      clear ew
      refine lv_aload_n hx hb dX4_addStack_32 rfl (lv_at hl 1 rfl) ?_
      refine va_get (D := G.1) (ci := 2) (v := .ref h_t_stacks) (C := RX4) (T := TX4) (N := 14) hx hb hts n_X4_addStack_X4 hown hK hP 0 rfl rfl 5 (by decide) (hts _ u_X4_addStack_1) (fun _ h9 => h9) rfl dX4_addStack_33 ?_
      refine lv_iload hx hb dX4_addStack_36 (lv_at hl 0 rfl) ?_
      refine lv_iload_n hx hb dX4_addStack_38 rfl (lv_at hl 3 rfl) ?_
      refine lv_iload hx hb dX4_addStack_39 (lv_at hl 4 rfl) ?_
      obtain ⟨t5, et5, hrun⟩ := bd_inv hrun
      refine k_callv (w2 := fun (_ : Unit) => [(h_t, .inr (2, [g_t_complete, g_t_near, g_t_second, g_t_third, g_t_growth, .ref h_t_stacks, .ref h_t_names, g_t_unsureCount, g_t_unsureStacks, g_t_unsurePlaces, g_t_agreedCount, g_t_agreedStacks, g_t_agreedDistances, g_t_agreedLayers])), (h_t_names, .inl (k_cJ G, 5, .inr (.inl w4))), (h_t_stacks, .inr (6, [.ref h_t_stacks_rows, .ref h_t_stacks_lengths, .int v_t_stacks_count])), (h_t_stacks_lengths, .inl (k_cI G, 5, .inl t5.1)), (h_t_stacks_rows, .inl (k_cI G, 5, .inl t5.2))]) C0 (k_runV (rest := []) C0 (c_X9_put et5) (cwV 3 hts gX4_addStack_X9_put rfl rfl rfl e_X9_put ⟨Nat.le_of_ble_eq_true rfl, Nat.le_of_ble_eq_true rfl⟩) hP hD hS [2, 3, 4] rfl (by decide) 2 (qc := (RX9, TX9, 3)) rfl rfl rfl rfl hl.1 rfl (Nat.le_of_ble_eq_true rfl) dX4_addStack_41 ⟨Nat.le_of_ble_eq_true rfl, Nat.le_of_ble_eq_true rfl⟩) hP hD hS [2, 3, 4] [0, 1] rfl rfl (by decide) (by decide) [0, 1, 2, 3, 4] (by decide) (fun _ => rfl) (fun _ H locs hP hD hS => ?_)
      have hP : va_P G.1 vwCl [(h_t, .inr (2, [g_t_complete, g_t_near, g_t_second, g_t_third, g_t_growth, .ref h_t_stacks, .ref h_t_names, g_t_unsureCount, g_t_unsureStacks, g_t_unsurePlaces, g_t_agreedCount, g_t_agreedStacks, g_t_agreedDistances, g_t_agreedLayers])), (h_t_names, .inl (k_cJ G, 5, .inr (.inl w4))), (h_t_stacks, .inr (6, [.ref h_t_stacks_rows, .ref h_t_stacks_lengths, .int v_t_stacks_count])), (h_t_stacks_lengths, .inl (k_cI G, 5, .inl t5.1)), (h_t_stacks_rows, .inl (k_cI G, 5, .inl t5.2))] H := hP
      have hD : va_D A [(h_t, .inr (2, [g_t_complete, g_t_near, g_t_second, g_t_third, g_t_growth, .ref h_t_stacks, .ref h_t_names, g_t_unsureCount, g_t_unsureStacks, g_t_unsurePlaces, g_t_agreedCount, g_t_agreedStacks, g_t_agreedDistances, g_t_agreedLayers])), (h_t_names, .inl (k_cJ G, 5, .inr (.inl w4))), (h_t_stacks, .inr (6, [.ref h_t_stacks_rows, .ref h_t_stacks_lengths, .int v_t_stacks_count])), (h_t_stacks_lengths, .inl (k_cI G, 5, .inl t5.1)), (h_t_stacks_rows, .inl (k_cI G, 5, .inl t5.2))] := hD
      refine lv_aload_n hx hb dX4_addStack_44 rfl (lv_at hl 1 rfl) ?_
      refine va_get (D := G.1) (ci := 2) (v := .ref h_t_stacks) (C := RX4) (T := TX4) (N := 14) hx hb hts n_X4_addStack_X4 hown hK hP 0 rfl rfl 5 (by decide) (hts _ u_X4_addStack_1) (fun _ h9 => h9) rfl dX4_addStack_45 ?_
      refine lv_dup hx hb dX4_addStack_48 rfl ?_
      refine va_getN (D := G.1) (ci := 6) (v := .int v_t_stacks_count) (C := RX9) (T := TX9) (N := 3) hx hb hts n_X4_addStack_X9 hown hK hP 2 rfl rfl 2 (by decide) (va_Nw.use rfl (k_nw hNW 45 nw_X4_addStack_45)) (fun _ h9 => h9) rfl dX4_addStack_49 ?_
      refine lv_iconst (v := 1) hx hb dX4_addStack_52 (by decide) ?_
      refine lv_iadd hx hb dX4_addStack_53 ?_
      obtain ⟨n6, en, hrun⟩ := lt_inv hrun
      refine k_nmi en ?_
      clear en
      refine va_putN (D := G.1) (ci := 6) (v := .int n6) (ty := .int) (C := RX9) (T := TX9) (N := 3) hx hb hts n_X4_addStack_X9 tyX9 tyX9_ok nmX9 hown hK hP hD hS 2 rfl rfl 2 (by decide) (va_Nw.use rfl (k_nw hNW 45 nw_X4_addStack_45)) (fun _ h9 => h9) rfl (by decide +kernel) rfl rfl (Nat.le_of_ble_eq_true rfl) dX4_addStack_54 (fun H locs hP hD hS => ?_)
      have hP : va_P G.1 vwCl [(h_t, .inr (2, [g_t_complete, g_t_near, g_t_second, g_t_third, g_t_growth, .ref h_t_stacks, .ref h_t_names, g_t_unsureCount, g_t_unsureStacks, g_t_unsurePlaces, g_t_agreedCount, g_t_agreedStacks, g_t_agreedDistances, g_t_agreedLayers])), (h_t_names, .inl (k_cJ G, 5, .inr (.inl w4))), (h_t_stacks, .inr (6, [.ref h_t_stacks_rows, .ref h_t_stacks_lengths, .int n6])), (h_t_stacks_lengths, .inl (k_cI G, 5, .inl t5.1)), (h_t_stacks_rows, .inl (k_cI G, 5, .inl t5.2))] H := hP
      have hD : va_D A [(h_t, .inr (2, [g_t_complete, g_t_near, g_t_second, g_t_third, g_t_growth, .ref h_t_stacks, .ref h_t_names, g_t_unsureCount, g_t_unsureStacks, g_t_unsurePlaces, g_t_agreedCount, g_t_agreedStacks, g_t_agreedDistances, g_t_agreedLayers])), (h_t_names, .inl (k_cJ G, 5, .inr (.inl w4))), (h_t_stacks, .inr (6, [.ref h_t_stacks_rows, .ref h_t_stacks_lengths, .int n6])), (h_t_stacks_lengths, .inl (k_cI G, 5, .inl t5.1)), (h_t_stacks_rows, .inl (k_cI G, 5, .inl t5.2))] := hD
      obtain rfl := Option.some.inj hrun
      exact k_retv C0 hP hD hS () rfl dX4_addStack_57
theorem u_X4_isUnsure_1 : (Cond.fieldLink RX4 46 "ClosePacking$Lab" "unsureCount" "I") ∈ wsX4_isUnsure := List.mem_of_getElem? (i := 1) (by decide +kernel)
theorem u_X4_isUnsure_2 : (Cond.fieldLink RX4 22 "ClosePacking$Lab" "unsureStacks" "[I") ∈ wsX4_isUnsure := List.mem_of_getElem? (i := 2) (by decide +kernel)
theorem u_X4_isUnsure_3 : (Cond.fieldLink RX4 26 "ClosePacking$Lab" "unsurePlaces" "[I") ∈ wsX4_isUnsure := List.mem_of_getElem? (i := 3) (by decide +kernel)
theorem u_X4_isUnsure_4 : (Cond.static yX11_at) ∈ wsX4_isUnsure := List.mem_of_getElem? (i := 4) (by decide +kernel)
theorem u_X4_isUnsure_5 : (Cond.initialized RX11) ∈ wsX4_isUnsure := List.mem_of_getElem? (i := 5) (by decide +kernel)
theorem n_X4_isUnsure_X4 : ∀ w ∈ u_ws RX4 TX4 14, w ∈ wsX4_isUnsure := by decide +kernel
theorem nw_X4_isUnsure_13 : k_nest[13]? = some (.methodLinkNest RX4 56 yX11_at "ClosePacking") := rfl
abbrev rm_X4_isUnsure : Room := { frames := 1, cells := 0, slots := 0, locals := 21 }
theorem e_X4_isUnsure : yX4_isUnsure.cls = RX4 ∧ yX4_isUnsure.cls ≠ "java/lang/invoke/MethodHandle" ∧ yX4_isUnsure.cls ≠ "java/lang/invoke/VarHandle" ∧ (parseMethodDescriptor yX4_isUnsure.desc).map (fun d => d.parameters.length) = some 2 := by decide +kernel
set_option maxHeartbeats 4000000 in
set_option maxRecDepth 100000 in
theorem t_X4_isUnsure_36 {l : Launch} {G : k_G} {p : Program} {e : Env} {s : State} {m : MethodId} {args : Array Value} {below : List Frame} {meth : Method} {c : Code} {A : Nat → Prop} {h_t h_t_unsurePlaces h_t_unsureStacks : Nat} {g_t_complete g_t_near g_t_second g_t_third g_t_growth g_t_stacks g_t_names g_t_agreedCount g_t_agreedStacks g_t_agreedDistances g_t_agreedLayers : Value} {out : Int32} (C0 : k_C G p s m args meth c A cX4_isUnsure RX4 wsX4_isUnsure 4 (some .boolean) "isUnsure") (k2 : Int32 → Int32 → Int32 → Int32 → (Nat → Int32) → (Nat → Int32) → Option (Int32)) (hk2 : ∀ (x1 : Int32) (x2 : Int32) (x3 : Int32) (v_t_unsureCount : Int32) (w_t_unsurePlaces : Nat → Int32) (w_t_unsureStacks : Nat → Int32) (H : Heap) (locs : List Loc) (ls : Array Slot), va_P G.1 vwCl [(h_t, .inr (2, [g_t_complete, g_t_near, g_t_second, g_t_third, g_t_growth, g_t_stacks, g_t_names, .int v_t_unsureCount, .ref h_t_unsureStacks, .ref h_t_unsurePlaces, g_t_agreedCount, g_t_agreedStacks, g_t_agreedDistances, g_t_agreedLayers])), (h_t_unsurePlaces, .inl (k_cI G, 4, .inl w_t_unsurePlaces)), (h_t_unsureStacks, .inl (k_cI G, 4, .inl w_t_unsureStacks))] H → va_D A [(h_t, .inr (2, [g_t_complete, g_t_near, g_t_second, g_t_third, g_t_growth, g_t_stacks, g_t_names, .int v_t_unsureCount, .ref h_t_unsureStacks, .ref h_t_unsurePlaces, g_t_agreedCount, g_t_agreedStacks, g_t_agreedDistances, g_t_agreedLayers])), (h_t_unsurePlaces, .inl (k_cI G, 4, .inl w_t_unsurePlaces)), (h_t_unsureStacks, .inl (k_cI G, 4, .inl w_t_unsureStacks))] → va_S A s.heap H locs → lv_has ls 4 [(0, .ref h_t), (1, .int x1), (2, .int x2), (3, .int x3)] → k2 x1 x2 x3 v_t_unsureCount w_t_unsurePlaces w_t_unsureStacks = some out → W p l e rm_X4_isUnsure s m args below meth c H locs 0 0 (MQ below (k_Qi G A out (fun (_ : Unit) => [(h_t, .inr (2, [g_t_complete, g_t_near, g_t_second, g_t_third, g_t_growth, g_t_stacks, g_t_names, .int v_t_unsureCount, .ref h_t_unsureStacks, .ref h_t_unsurePlaces, g_t_agreedCount, g_t_agreedStacks, g_t_agreedDistances, g_t_agreedLayers])), (h_t_unsurePlaces, .inl (k_cI G, 4, .inl w_t_unsurePlaces)), (h_t_unsureStacks, .inl (k_cI G, 4, .inl w_t_unsureStacks))])) args s 0 0 A) (F0 m 2 ls [])) : ∀ (x1 : Int32) (x2 : Int32) (x3 : Int32) (v_t_unsureCount : Int32) (w_t_unsurePlaces : Nat → Int32) (w_t_unsureStacks : Nat → Int32) (H : Heap) (locs : List Loc) (ls : Array Slot), va_P G.1 vwCl [(h_t, .inr (2, [g_t_complete, g_t_near, g_t_second, g_t_third, g_t_growth, g_t_stacks, g_t_names, .int v_t_unsureCount, .ref h_t_unsureStacks, .ref h_t_unsurePlaces, g_t_agreedCount, g_t_agreedStacks, g_t_agreedDistances, g_t_agreedLayers])), (h_t_unsurePlaces, .inl (k_cI G, 4, .inl w_t_unsurePlaces)), (h_t_unsureStacks, .inl (k_cI G, 4, .inl w_t_unsureStacks))] H → va_D A [(h_t, .inr (2, [g_t_complete, g_t_near, g_t_second, g_t_third, g_t_growth, g_t_stacks, g_t_names, .int v_t_unsureCount, .ref h_t_unsureStacks, .ref h_t_unsurePlaces, g_t_agreedCount, g_t_agreedStacks, g_t_agreedDistances, g_t_agreedLayers])), (h_t_unsurePlaces, .inl (k_cI G, 4, .inl w_t_unsurePlaces)), (h_t_unsureStacks, .inl (k_cI G, 4, .inl w_t_unsureStacks))] → va_S A s.heap H locs → lv_has ls 4 [(0, .ref h_t), (1, .int x1), (2, .int x2), (3, .int x3)] → f_X4_isUnsure_36 k2 x1 x2 x3 v_t_unsureCount w_t_unsurePlaces w_t_unsureStacks = some out → W p l e rm_X4_isUnsure s m args below meth c H locs 0 0 (MQ below (k_Qi G A out (fun (_ : Unit) => [(h_t, .inr (2, [g_t_complete, g_t_near, g_t_second, g_t_third, g_t_growth, g_t_stacks, g_t_names, .int v_t_unsureCount, .ref h_t_unsureStacks, .ref h_t_unsurePlaces, g_t_agreedCount, g_t_agreedStacks, g_t_agreedDistances, g_t_agreedLayers])), (h_t_unsurePlaces, .inl (k_cI G, 4, .inl w_t_unsurePlaces)), (h_t_unsureStacks, .inl (k_cI G, 4, .inl w_t_unsureStacks))])) args s 0 0 A) (F0 m 36 ls []) := by
  have hx := C0.1
  have hb := C0.2.1
  have hts := C0.2.2.2.1
  have hown := C0.2.2.2.2.1
  have hK := C0.2.2.2.2.2.2.2.2.1.1
  have hNW := C0.2.2.2.2.2.2.2.2.1.2.1
  have hSF := C0.2.2.2.2.2.2.2.2.1.2.2
  intro x1 x2 x3 v_t_unsureCount w_t_unsurePlaces w_t_unsureStacks H locs ls hP hD hS hl hrun
  rw [f_X4_isUnsure_36] at hrun
  refine lv_iinc (v := x3 + 1) (lv' := [(3, .int (x3 + 1)), (0, .ref h_t), (1, .int x1), (2, .int x2)]) hx hb dX4_isUnsure_36 hl (k := 3) rfl rfl (by decide) rfl (fun ls hl => ?_)
  refine lv_goto (tgt := 2) hx hb dX4_isUnsure_39 (by decide) ?_
  exact hk2 x1 x2 (x3 + 1) v_t_unsureCount w_t_unsurePlaces w_t_unsureStacks _ _ _ hP hD hS (lv_sub hl [1, 2, 3, 0] rfl) hrun
set_option maxHeartbeats 4000000 in
set_option maxRecDepth 100000 in
theorem t_X4_isUnsure_2 {l : Launch} {G : k_G} {p : Program} {e : Env} {s : State} {m : MethodId} {args : Array Value} {below : List Frame} {meth : Method} {c : Code} {A : Nat → Prop} {h_t h_t_unsurePlaces h_t_unsureStacks : Nat} {g_t_complete g_t_near g_t_second g_t_third g_t_growth g_t_stacks g_t_names g_t_agreedCount g_t_agreedStacks g_t_agreedDistances g_t_agreedLayers : Value} {out : Int32} (C0 : k_C G p s m args meth c A cX4_isUnsure RX4 wsX4_isUnsure 4 (some .boolean) "isUnsure") : ∀ (n : Nat) (x1 : Int32) (x2 : Int32) (x3 : Int32) (v_t_unsureCount : Int32) (w_t_unsurePlaces : Nat → Int32) (w_t_unsureStacks : Nat → Int32) (H : Heap) (locs : List Loc) (ls : Array Slot), va_P G.1 vwCl [(h_t, .inr (2, [g_t_complete, g_t_near, g_t_second, g_t_third, g_t_growth, g_t_stacks, g_t_names, .int v_t_unsureCount, .ref h_t_unsureStacks, .ref h_t_unsurePlaces, g_t_agreedCount, g_t_agreedStacks, g_t_agreedDistances, g_t_agreedLayers])), (h_t_unsurePlaces, .inl (k_cI G, 4, .inl w_t_unsurePlaces)), (h_t_unsureStacks, .inl (k_cI G, 4, .inl w_t_unsureStacks))] H → va_D A [(h_t, .inr (2, [g_t_complete, g_t_near, g_t_second, g_t_third, g_t_growth, g_t_stacks, g_t_names, .int v_t_unsureCount, .ref h_t_unsureStacks, .ref h_t_unsurePlaces, g_t_agreedCount, g_t_agreedStacks, g_t_agreedDistances, g_t_agreedLayers])), (h_t_unsurePlaces, .inl (k_cI G, 4, .inl w_t_unsurePlaces)), (h_t_unsureStacks, .inl (k_cI G, 4, .inl w_t_unsureStacks))] → va_S A s.heap H locs → lv_has ls 4 [(0, .ref h_t), (1, .int x1), (2, .int x2), (3, .int x3)] → f_X4_isUnsure_2 n x1 x2 x3 v_t_unsureCount w_t_unsurePlaces w_t_unsureStacks = some out → W p l e rm_X4_isUnsure s m args below meth c H locs 0 0 (MQ below (k_Qi G A out (fun (_ : Unit) => [(h_t, .inr (2, [g_t_complete, g_t_near, g_t_second, g_t_third, g_t_growth, g_t_stacks, g_t_names, .int v_t_unsureCount, .ref h_t_unsureStacks, .ref h_t_unsurePlaces, g_t_agreedCount, g_t_agreedStacks, g_t_agreedDistances, g_t_agreedLayers])), (h_t_unsurePlaces, .inl (k_cI G, 4, .inl w_t_unsurePlaces)), (h_t_unsureStacks, .inl (k_cI G, 4, .inl w_t_unsureStacks))])) args s 0 0 A) (F0 m 2 ls []) := by
  have hx := C0.1
  have hb := C0.2.1
  have hts := C0.2.2.2.1
  have hown := C0.2.2.2.2.1
  have hK := C0.2.2.2.2.2.2.2.2.1.1
  have hNW := C0.2.2.2.2.2.2.2.2.1.2.1
  have hSF := C0.2.2.2.2.2.2.2.2.1.2.2
  intro n
  induction n with
  | zero =>
    intro x1 x2 x3 v_t_unsureCount w_t_unsurePlaces w_t_unsureStacks H locs ls hP hD hS hl hrun
    rw [f_X4_isUnsure_2] at hrun
    cases hrun
  | succ n ih =>
    intro x1 x2 x3 v_t_unsureCount w_t_unsurePlaces w_t_unsureStacks H locs ls hP hD hS hl hrun
    rw [f_X4_isUnsure_2] at hrun
    refine lv_iload_n hx hb dX4_isUnsure_2 rfl (lv_at hl 3 rfl) ?_
    refine lv_aload_n hx hb dX4_isUnsure_3 rfl (lv_at hl 0 rfl) ?_
    refine va_get (D := G.1) (ci := 2) (v := .int v_t_unsureCount) (C := RX4) (T := TX4) (N := 14) hx hb hts n_X4_isUnsure_X4 hown hK hP 0 rfl rfl 7 (by decide) (hts _ u_X4_isUnsure_1) (fun _ h9 => h9) rfl dX4_isUnsure_4 ?_
    refine lv_icmp_ge (tgt := 42) hx hb dX4_isUnsure_7 (by decide) (fun q1 => ?_) (fun q1 => ?_)
    · replace hrun := if_t q1 hrun
      refine lv_iconst (v := 0) hx hb dX4_isUnsure_42 (by decide) ?_
      obtain rfl := Option.some.inj hrun
      exact k_retz C0 hP hD hS () rfl rfl rfl dX4_isUnsure_43
    · replace hrun := if_f q1 hrun
      refine lv_aload_n hx hb dX4_isUnsure_10 rfl (lv_at hl 0 rfl) ?_
      refine va_get (D := G.1) (ci := 2) (v := .ref h_t_unsureStacks) (C := RX4) (T := TX4) (N := 14) hx hb hts n_X4_isUnsure_X4 hown hK hP 0 rfl rfl 8 (by decide) (hts _ u_X4_isUnsure_2) (fun _ h9 => h9) rfl dX4_isUnsure_11 ?_
      refine lv_iload_n hx hb dX4_isUnsure_14 rfl (lv_at hl 3 rfl) ?_
      obtain ⟨t2, et2, hrun⟩ := bd_inv hrun
      refine k_calli (w2 := fun (_ : Unit) => [(h_t, .inr (2, [g_t_complete, g_t_near, g_t_second, g_t_third, g_t_growth, g_t_stacks, g_t_names, .int v_t_unsureCount, .ref h_t_unsureStacks, .ref h_t_unsurePlaces, g_t_agreedCount, g_t_agreedStacks, g_t_agreedDistances, g_t_agreedLayers])), (h_t_unsurePlaces, .inl (k_cI G, 4, .inl w_t_unsurePlaces)), (h_t_unsureStacks, .inl (k_cI G, 4, .inl w_t_unsureStacks))]) C0 (k_runSN (rest := []) C0 (c_X11_at et2) (va_cnB 2 hts gX4_isUnsure_X11_at_n56 rfl rfl rfl (k_nw hNW 13 nw_X4_isUnsure_13) (hts _ u_X4_isUnsure_5) e_X11_at.2 ⟨Nat.le_of_ble_eq_true rfl, Nat.le_of_ble_eq_true rfl⟩) (hts _ u_X4_isUnsure_4) hP hD hS [2] rfl (by decide) rfl hl.1 rfl (Nat.le_of_ble_eq_true rfl) dX4_isUnsure_15 ⟨Nat.le_of_ble_eq_true rfl, Nat.le_of_ble_eq_true rfl⟩) hP hD hS [2] [0, 1] rfl rfl (by decide) (by decide) [0, 1, 2] (by decide) (fun _ => rfl) (fun _ H locs hP hD hS => ?_)
      have hP : va_P G.1 vwCl [(h_t, .inr (2, [g_t_complete, g_t_near, g_t_second, g_t_third, g_t_growth, g_t_stacks, g_t_names, .int v_t_unsureCount, .ref h_t_unsureStacks, .ref h_t_unsurePlaces, g_t_agreedCount, g_t_agreedStacks, g_t_agreedDistances, g_t_agreedLayers])), (h_t_unsurePlaces, .inl (k_cI G, 4, .inl w_t_unsurePlaces)), (h_t_unsureStacks, .inl (k_cI G, 4, .inl w_t_unsureStacks))] H := hP
      have hD : va_D A [(h_t, .inr (2, [g_t_complete, g_t_near, g_t_second, g_t_third, g_t_growth, g_t_stacks, g_t_names, .int v_t_unsureCount, .ref h_t_unsureStacks, .ref h_t_unsurePlaces, g_t_agreedCount, g_t_agreedStacks, g_t_agreedDistances, g_t_agreedLayers])), (h_t_unsurePlaces, .inl (k_cI G, 4, .inl w_t_unsurePlaces)), (h_t_unsureStacks, .inl (k_cI G, 4, .inl w_t_unsureStacks))] := hD
      refine lv_iload_n hx hb dX4_isUnsure_18 rfl (lv_at hl 1 rfl) ?_
      refine lv_icmp_ne (tgt := 36) hx hb dX4_isUnsure_19 (by decide) (fun q3 => ?_) (fun q3 => ?_)
      · replace hrun := if_f q3 hrun
        exact t_X4_isUnsure_36 C0 (fun x1 x2 x3 v_t_unsureCount w_t_unsurePlaces w_t_unsureStacks => f_X4_isUnsure_2 n x1 x2 x3 v_t_unsureCount w_t_unsurePlaces w_t_unsureStacks) ih x1 x2 x3 v_t_unsureCount w_t_unsurePlaces w_t_unsureStacks _ _ _ hP hD hS hl hrun
      · replace hrun := if_t q3 hrun
        refine lv_aload_n hx hb dX4_isUnsure_22 rfl (lv_at hl 0 rfl) ?_
        refine va_get (D := G.1) (ci := 2) (v := .ref h_t_unsurePlaces) (C := RX4) (T := TX4) (N := 14) hx hb hts n_X4_isUnsure_X4 hown hK hP 0 rfl rfl 9 (by decide) (hts _ u_X4_isUnsure_3) (fun _ h9 => h9) rfl dX4_isUnsure_23 ?_
        refine lv_iload_n hx hb dX4_isUnsure_26 rfl (lv_at hl 3 rfl) ?_
        obtain ⟨t4, et4, hrun⟩ := bd_inv hrun
        refine k_calli (w2 := fun (_ : Unit) => [(h_t, .inr (2, [g_t_complete, g_t_near, g_t_second, g_t_third, g_t_growth, g_t_stacks, g_t_names, .int v_t_unsureCount, .ref h_t_unsureStacks, .ref h_t_unsurePlaces, g_t_agreedCount, g_t_agreedStacks, g_t_agreedDistances, g_t_agreedLayers])), (h_t_unsurePlaces, .inl (k_cI G, 4, .inl w_t_unsurePlaces)), (h_t_unsureStacks, .inl (k_cI G, 4, .inl w_t_unsureStacks))]) C0 (k_runSN (rest := []) C0 (c_X11_at et4) (va_cnB 2 hts gX4_isUnsure_X11_at_n56 rfl rfl rfl (k_nw hNW 13 nw_X4_isUnsure_13) (hts _ u_X4_isUnsure_5) e_X11_at.2 ⟨Nat.le_of_ble_eq_true rfl, Nat.le_of_ble_eq_true rfl⟩) (hts _ u_X4_isUnsure_4) hP hD hS [1] rfl (by decide) rfl hl.1 rfl (Nat.le_of_ble_eq_true rfl) dX4_isUnsure_27 ⟨Nat.le_of_ble_eq_true rfl, Nat.le_of_ble_eq_true rfl⟩) hP hD hS [1] [0, 2] rfl rfl (by decide) (by decide) [0, 2, 1] (by decide) (fun _ => rfl) (fun _ H locs hP hD hS => ?_)
        have hP : va_P G.1 vwCl [(h_t, .inr (2, [g_t_complete, g_t_near, g_t_second, g_t_third, g_t_growth, g_t_stacks, g_t_names, .int v_t_unsureCount, .ref h_t_unsureStacks, .ref h_t_unsurePlaces, g_t_agreedCount, g_t_agreedStacks, g_t_agreedDistances, g_t_agreedLayers])), (h_t_unsurePlaces, .inl (k_cI G, 4, .inl w_t_unsurePlaces)), (h_t_unsureStacks, .inl (k_cI G, 4, .inl w_t_unsureStacks))] H := hP
        have hD : va_D A [(h_t, .inr (2, [g_t_complete, g_t_near, g_t_second, g_t_third, g_t_growth, g_t_stacks, g_t_names, .int v_t_unsureCount, .ref h_t_unsureStacks, .ref h_t_unsurePlaces, g_t_agreedCount, g_t_agreedStacks, g_t_agreedDistances, g_t_agreedLayers])), (h_t_unsurePlaces, .inl (k_cI G, 4, .inl w_t_unsurePlaces)), (h_t_unsureStacks, .inl (k_cI G, 4, .inl w_t_unsureStacks))] := hD
        refine lv_iload_n hx hb dX4_isUnsure_30 rfl (lv_at hl 2 rfl) ?_
        refine lv_icmp_ne (tgt := 36) hx hb dX4_isUnsure_31 (by decide) (fun q5 => ?_) (fun q5 => ?_)
        · replace hrun := if_f q5 hrun
          exact t_X4_isUnsure_36 C0 (fun x1 x2 x3 v_t_unsureCount w_t_unsurePlaces w_t_unsureStacks => f_X4_isUnsure_2 n x1 x2 x3 v_t_unsureCount w_t_unsurePlaces w_t_unsureStacks) ih x1 x2 x3 v_t_unsureCount w_t_unsurePlaces w_t_unsureStacks _ _ _ hP hD hS hl hrun
        · replace hrun := if_t q5 hrun
          refine lv_iconst (v := 1) hx hb dX4_isUnsure_34 (by decide) ?_
          obtain rfl := Option.some.inj hrun
          exact k_retz C0 hP hD hS () rfl rfl rfl dX4_isUnsure_35
set_option maxHeartbeats 4000000 in
set_option maxRecDepth 100000 in
theorem c_X4_isUnsure {l : Launch} {G : k_G} {h_t h_t_unsurePlaces h_t_unsureStacks : Nat} {g_t_complete g_t_near g_t_second g_t_third g_t_growth g_t_stacks g_t_names g_t_agreedCount g_t_agreedStacks g_t_agreedDistances g_t_agreedLayers : Value} {sz : Nat} {p1 : Int32} {p2 : Int32} {v_t_unsureCount : Int32} {w_t_unsurePlaces : Nat → Int32} {w_t_unsureStacks : Nat → Int32} {out : Int32} (hrun : f_X4_isUnsure p1 p2 v_t_unsureCount w_t_unsurePlaces w_t_unsureStacks = some out) : k_Ci l G yX4_isUnsure wsX4_isUnsure rm_X4_isUnsure [.ref h_t, .int p1, .int p2] [(h_t, .inr (2, [g_t_complete, g_t_near, g_t_second, g_t_third, g_t_growth, g_t_stacks, g_t_names, .int v_t_unsureCount, .ref h_t_unsureStacks, .ref h_t_unsurePlaces, g_t_agreedCount, g_t_agreedStacks, g_t_agreedDistances, g_t_agreedLayers])), (h_t_unsurePlaces, .inl (k_cI G, 4, .inl w_t_unsurePlaces)), (h_t_unsureStacks, .inl (k_cI G, 4, .inl w_t_unsureStacks))] sz out (fun (_ : Unit) => [(h_t, .inr (2, [g_t_complete, g_t_near, g_t_second, g_t_third, g_t_growth, g_t_stacks, g_t_names, .int v_t_unsureCount, .ref h_t_unsureStacks, .ref h_t_unsurePlaces, g_t_agreedCount, g_t_agreedStacks, g_t_agreedDistances, g_t_agreedLayers])), (h_t_unsurePlaces, .inl (k_cI G, 4, .inl w_t_unsurePlaces)), (h_t_unsureStacks, .inl (k_cI G, 4, .inl w_t_unsureStacks))]) 0 0 := by
  refine k_of (cc := cX4_isUnsure) (nL := 4) (ret := some .boolean) (own := RX4) (nm := "isUnsure") (by decide) rfl rfl rfl rfl ?_
  intro p e s m args below meth c ls hsz C0 hP hD hS hl
  have hl : lv_has ls 4 [(0, .ref h_t), (1, .int p1), (2, .int p2)] := hl
  generalize hH : s.heap = H at hP
  have hS : va_S (va_A [(h_t, .inr (2, [g_t_complete, g_t_near, g_t_second, g_t_third, g_t_growth, g_t_stacks, g_t_names, .int v_t_unsureCount, .ref h_t_unsureStacks, .ref h_t_unsurePlaces, g_t_agreedCount, g_t_agreedStacks, g_t_agreedDistances, g_t_agreedLayers])), (h_t_unsurePlaces, .inl (k_cI G, 4, .inl w_t_unsurePlaces)), (h_t_unsureStacks, .inl (k_cI G, 4, .inl w_t_unsureStacks))] sz) s.heap H [] := by rw [← hH]; exact hS
  clear hH
  generalize va_A [(h_t, .inr (2, [g_t_complete, g_t_near, g_t_second, g_t_third, g_t_growth, g_t_stacks, g_t_names, .int v_t_unsureCount, .ref h_t_unsureStacks, .ref h_t_unsurePlaces, g_t_agreedCount, g_t_agreedStacks, g_t_agreedDistances, g_t_agreedLayers])), (h_t_unsurePlaces, .inl (k_cI G, 4, .inl w_t_unsurePlaces)), (h_t_unsureStacks, .inl (k_cI G, 4, .inl w_t_unsureStacks))] sz = A at C0 hD hS ⊢
  have hx := C0.1
  have hb := C0.2.1
  have hts := C0.2.2.2.1
  have hown := C0.2.2.2.2.1
  have hK := C0.2.2.2.2.2.2.2.2.1.1
  have hNW := C0.2.2.2.2.2.2.2.2.1.2.1
  have hSF := C0.2.2.2.2.2.2.2.2.1.2.2
  rw [f_X4_isUnsure] at hrun
  refine lv_iconst (v := 0) hx hb dX4_isUnsure_0 (by decide) ?_
  refine lv_istore_n (lv' := [(3, .int (0 : Int32)), (0, .ref h_t), (1, .int p1), (2, .int p2)]) hx hb dX4_isUnsure_1 rfl hl (by decide) rfl (fun ls hl => ?_)
  exact t_X4_isUnsure_2 C0 kFU p1 p2 (0 : Int32) v_t_unsureCount w_t_unsurePlaces w_t_unsureStacks _ _ _ hP hD hS (lv_sub hl [1, 2, 3, 0] rfl) hrun
theorem u_X4_addUnsure_1 : (Cond.fieldLink RX4 22 "ClosePacking$Lab" "unsureStacks" "[I") ∈ wsX4_addUnsure := List.mem_of_getElem? (i := 1) (by decide +kernel)
theorem u_X4_addUnsure_2 : (Cond.fieldLink RX4 46 "ClosePacking$Lab" "unsureCount" "I") ∈ wsX4_addUnsure := List.mem_of_getElem? (i := 2) (by decide +kernel)
theorem u_X4_addUnsure_3 : (Cond.fieldLink RX4 26 "ClosePacking$Lab" "unsurePlaces" "[I") ∈ wsX4_addUnsure := List.mem_of_getElem? (i := 3) (by decide +kernel)
theorem u_X4_addUnsure_4 : (Cond.static yX11_set) ∈ wsX4_addUnsure := List.mem_of_getElem? (i := 4) (by decide +kernel)
theorem u_X4_addUnsure_5 : (Cond.initialized RX11) ∈ wsX4_addUnsure := List.mem_of_getElem? (i := 5) (by decide +kernel)
theorem n_X4_addUnsure_X4 : ∀ w ∈ u_ws RX4 TX4 14, w ∈ wsX4_addUnsure := by decide +kernel
theorem nw_X4_addUnsure_14 : k_nest[14]? = some (.methodLinkNest RX4 60 yX11_set "ClosePacking") := rfl
abbrev rm_X4_addUnsure : Room := { frames := 1, cells := 0, slots := 0, locals := 22 }
theorem e_X4_addUnsure : yX4_addUnsure.cls = RX4 ∧ yX4_addUnsure.cls ≠ "java/lang/invoke/MethodHandle" ∧ yX4_addUnsure.cls ≠ "java/lang/invoke/VarHandle" ∧ (parseMethodDescriptor yX4_addUnsure.desc).map (fun d => d.parameters.length) = some 2 := by decide +kernel
set_option maxHeartbeats 4000000 in
set_option maxRecDepth 100000 in
theorem c_X4_addUnsure {l : Launch} {G : k_G} {h_t h_t_unsurePlaces h_t_unsureStacks : Nat} {g_t_complete g_t_near g_t_second g_t_third g_t_growth g_t_stacks g_t_names g_t_agreedCount g_t_agreedStacks g_t_agreedDistances g_t_agreedLayers : Value} {sz : Nat} {p1 : Int32} {p2 : Int32} {v_t_unsureCount : Int32} {w_t_unsurePlaces : Nat → Int32} {w_t_unsureStacks : Nat → Int32} {out : Int32 × (Nat → Int32) × (Nat → Int32)} (hrun : f_X4_addUnsure p1 p2 v_t_unsureCount w_t_unsurePlaces w_t_unsureStacks = some out) : k_Cv l G yX4_addUnsure wsX4_addUnsure rm_X4_addUnsure [.ref h_t, .int p1, .int p2] [(h_t, .inr (2, [g_t_complete, g_t_near, g_t_second, g_t_third, g_t_growth, g_t_stacks, g_t_names, .int v_t_unsureCount, .ref h_t_unsureStacks, .ref h_t_unsurePlaces, g_t_agreedCount, g_t_agreedStacks, g_t_agreedDistances, g_t_agreedLayers])), (h_t_unsurePlaces, .inl (k_cI G, 4, .inl w_t_unsurePlaces)), (h_t_unsureStacks, .inl (k_cI G, 4, .inl w_t_unsureStacks))] sz (fun (_ : Unit) => [(h_t, .inr (2, [g_t_complete, g_t_near, g_t_second, g_t_third, g_t_growth, g_t_stacks, g_t_names, .int out.1, .ref h_t_unsureStacks, .ref h_t_unsurePlaces, g_t_agreedCount, g_t_agreedStacks, g_t_agreedDistances, g_t_agreedLayers])), (h_t_unsurePlaces, .inl (k_cI G, 4, .inl out.2.1)), (h_t_unsureStacks, .inl (k_cI G, 4, .inl out.2.2))]) 0 0 := by
  refine k_of (cc := cX4_addUnsure) (nL := 3) (ret := none) (own := RX4) (nm := "addUnsure") (by decide) rfl rfl rfl rfl ?_
  intro p e s m args below meth c ls hsz C0 hP hD hS hl
  have hl : lv_has ls 3 [(0, .ref h_t), (1, .int p1), (2, .int p2)] := hl
  generalize hH : s.heap = H at hP
  have hS : va_S (va_A [(h_t, .inr (2, [g_t_complete, g_t_near, g_t_second, g_t_third, g_t_growth, g_t_stacks, g_t_names, .int v_t_unsureCount, .ref h_t_unsureStacks, .ref h_t_unsurePlaces, g_t_agreedCount, g_t_agreedStacks, g_t_agreedDistances, g_t_agreedLayers])), (h_t_unsurePlaces, .inl (k_cI G, 4, .inl w_t_unsurePlaces)), (h_t_unsureStacks, .inl (k_cI G, 4, .inl w_t_unsureStacks))] sz) s.heap H [] := by rw [← hH]; exact hS
  clear hH
  generalize va_A [(h_t, .inr (2, [g_t_complete, g_t_near, g_t_second, g_t_third, g_t_growth, g_t_stacks, g_t_names, .int v_t_unsureCount, .ref h_t_unsureStacks, .ref h_t_unsurePlaces, g_t_agreedCount, g_t_agreedStacks, g_t_agreedDistances, g_t_agreedLayers])), (h_t_unsurePlaces, .inl (k_cI G, 4, .inl w_t_unsurePlaces)), (h_t_unsureStacks, .inl (k_cI G, 4, .inl w_t_unsureStacks))] sz = A at C0 hD hS ⊢
  have hx := C0.1
  have hb := C0.2.1
  have hts := C0.2.2.2.1
  have hown := C0.2.2.2.2.1
  have hK := C0.2.2.2.2.2.2.2.2.1.1
  have hNW := C0.2.2.2.2.2.2.2.2.1.2.1
  have hSF := C0.2.2.2.2.2.2.2.2.1.2.2
  rw [f_X4_addUnsure] at hrun
  refine lv_aload_n hx hb dX4_addUnsure_0 rfl (lv_at hl 0 rfl) ?_
  refine va_get (D := G.1) (ci := 2) (v := .ref h_t_unsureStacks) (C := RX4) (T := TX4) (N := 14) hx hb hts n_X4_addUnsure_X4 hown hK hP 0 rfl rfl 8 (by decide) (hts _ u_X4_addUnsure_1) (fun _ h9 => h9) rfl dX4_addUnsure_1 ?_
  refine lv_aload_n hx hb dX4_addUnsure_4 rfl (lv_at hl 0 rfl) ?_
  refine va_get (D := G.1) (ci := 2) (v := .int v_t_unsureCount) (C := RX4) (T := TX4) (N := 14) hx hb hts n_X4_addUnsure_X4 hown hK hP 0 rfl rfl 7 (by decide) (hts _ u_X4_addUnsure_2) (fun _ h9 => h9) rfl dX4_addUnsure_5 ?_
  refine lv_iload_n hx hb dX4_addUnsure_8 rfl (lv_at hl 1 rfl) ?_
  obtain ⟨t1, et1, hrun⟩ := bd_inv hrun
  refine k_callv (w2 := fun (_ : Unit) => [(h_t, .inr (2, [g_t_complete, g_t_near, g_t_second, g_t_third, g_t_growth, g_t_stacks, g_t_names, .int v_t_unsureCount, .ref h_t_unsureStacks, .ref h_t_unsurePlaces, g_t_agreedCount, g_t_agreedStacks, g_t_agreedDistances, g_t_agreedLayers])), (h_t_unsurePlaces, .inl (k_cI G, 4, .inl w_t_unsurePlaces)), (h_t_unsureStacks, .inl (k_cI G, 4, .inl t1))]) C0 (k_runSN (rest := []) C0 (c_X11_set et1) (va_cnB 3 hts gX4_addUnsure_X11_set_n60 rfl rfl rfl (k_nw hNW 14 nw_X4_addUnsure_14) (hts _ u_X4_addUnsure_5) e_X11_set.2 ⟨Nat.le_of_ble_eq_true rfl, Nat.le_of_ble_eq_true rfl⟩) (hts _ u_X4_addUnsure_4) hP hD hS [2] rfl (by decide) rfl hl.1 rfl (Nat.le_of_ble_eq_true rfl) dX4_addUnsure_9 ⟨Nat.le_of_ble_eq_true rfl, Nat.le_of_ble_eq_true rfl⟩) hP hD hS [2] [0, 1] rfl rfl (by decide) (by decide) [0, 1, 2] (by decide) (fun _ => rfl) (fun _ H locs hP hD hS => ?_)
  have hP : va_P G.1 vwCl [(h_t, .inr (2, [g_t_complete, g_t_near, g_t_second, g_t_third, g_t_growth, g_t_stacks, g_t_names, .int v_t_unsureCount, .ref h_t_unsureStacks, .ref h_t_unsurePlaces, g_t_agreedCount, g_t_agreedStacks, g_t_agreedDistances, g_t_agreedLayers])), (h_t_unsurePlaces, .inl (k_cI G, 4, .inl w_t_unsurePlaces)), (h_t_unsureStacks, .inl (k_cI G, 4, .inl t1))] H := hP
  have hD : va_D A [(h_t, .inr (2, [g_t_complete, g_t_near, g_t_second, g_t_third, g_t_growth, g_t_stacks, g_t_names, .int v_t_unsureCount, .ref h_t_unsureStacks, .ref h_t_unsurePlaces, g_t_agreedCount, g_t_agreedStacks, g_t_agreedDistances, g_t_agreedLayers])), (h_t_unsurePlaces, .inl (k_cI G, 4, .inl w_t_unsurePlaces)), (h_t_unsureStacks, .inl (k_cI G, 4, .inl t1))] := hD
  refine lv_aload_n hx hb dX4_addUnsure_12 rfl (lv_at hl 0 rfl) ?_
  refine va_get (D := G.1) (ci := 2) (v := .ref h_t_unsurePlaces) (C := RX4) (T := TX4) (N := 14) hx hb hts n_X4_addUnsure_X4 hown hK hP 0 rfl rfl 9 (by decide) (hts _ u_X4_addUnsure_3) (fun _ h9 => h9) rfl dX4_addUnsure_13 ?_
  refine lv_aload_n hx hb dX4_addUnsure_16 rfl (lv_at hl 0 rfl) ?_
  refine va_get (D := G.1) (ci := 2) (v := .int v_t_unsureCount) (C := RX4) (T := TX4) (N := 14) hx hb hts n_X4_addUnsure_X4 hown hK hP 0 rfl rfl 7 (by decide) (hts _ u_X4_addUnsure_2) (fun _ h9 => h9) rfl dX4_addUnsure_17 ?_
  refine lv_iload_n hx hb dX4_addUnsure_20 rfl (lv_at hl 2 rfl) ?_
  obtain ⟨t2, et2, hrun⟩ := bd_inv hrun
  refine k_callv (w2 := fun (_ : Unit) => [(h_t, .inr (2, [g_t_complete, g_t_near, g_t_second, g_t_third, g_t_growth, g_t_stacks, g_t_names, .int v_t_unsureCount, .ref h_t_unsureStacks, .ref h_t_unsurePlaces, g_t_agreedCount, g_t_agreedStacks, g_t_agreedDistances, g_t_agreedLayers])), (h_t_unsurePlaces, .inl (k_cI G, 4, .inl t2)), (h_t_unsureStacks, .inl (k_cI G, 4, .inl t1))]) C0 (k_runSN (rest := []) C0 (c_X11_set et2) (va_cnB 3 hts gX4_addUnsure_X11_set_n60 rfl rfl rfl (k_nw hNW 14 nw_X4_addUnsure_14) (hts _ u_X4_addUnsure_5) e_X11_set.2 ⟨Nat.le_of_ble_eq_true rfl, Nat.le_of_ble_eq_true rfl⟩) (hts _ u_X4_addUnsure_4) hP hD hS [1] rfl (by decide) rfl hl.1 rfl (Nat.le_of_ble_eq_true rfl) dX4_addUnsure_21 ⟨Nat.le_of_ble_eq_true rfl, Nat.le_of_ble_eq_true rfl⟩) hP hD hS [1] [0, 2] rfl rfl (by decide) (by decide) [0, 2, 1] (by decide) (fun _ => rfl) (fun _ H locs hP hD hS => ?_)
  have hP : va_P G.1 vwCl [(h_t, .inr (2, [g_t_complete, g_t_near, g_t_second, g_t_third, g_t_growth, g_t_stacks, g_t_names, .int v_t_unsureCount, .ref h_t_unsureStacks, .ref h_t_unsurePlaces, g_t_agreedCount, g_t_agreedStacks, g_t_agreedDistances, g_t_agreedLayers])), (h_t_unsurePlaces, .inl (k_cI G, 4, .inl t2)), (h_t_unsureStacks, .inl (k_cI G, 4, .inl t1))] H := hP
  have hD : va_D A [(h_t, .inr (2, [g_t_complete, g_t_near, g_t_second, g_t_third, g_t_growth, g_t_stacks, g_t_names, .int v_t_unsureCount, .ref h_t_unsureStacks, .ref h_t_unsurePlaces, g_t_agreedCount, g_t_agreedStacks, g_t_agreedDistances, g_t_agreedLayers])), (h_t_unsurePlaces, .inl (k_cI G, 4, .inl t2)), (h_t_unsureStacks, .inl (k_cI G, 4, .inl t1))] := hD
  refine lv_aload_n hx hb dX4_addUnsure_24 rfl (lv_at hl 0 rfl) ?_
  refine lv_dup hx hb dX4_addUnsure_25 rfl ?_
  refine va_get (D := G.1) (ci := 2) (v := .int v_t_unsureCount) (C := RX4) (T := TX4) (N := 14) hx hb hts n_X4_addUnsure_X4 hown hK hP 0 rfl rfl 7 (by decide) (hts _ u_X4_addUnsure_2) (fun _ h9 => h9) rfl dX4_addUnsure_26 ?_
  refine lv_iconst (v := 1) hx hb dX4_addUnsure_29 (by decide) ?_
  refine lv_iadd hx hb dX4_addUnsure_30 ?_
  obtain ⟨n3, en, hrun⟩ := lt_inv hrun
  refine k_nmi en ?_
  clear en
  refine va_put (D := G.1) (ci := 2) (v := .int n3) (ty := .int) (C := RX4) (T := TX4) (N := 14) hx hb hts n_X4_addUnsure_X4 tyX4 tyX4_ok nmX4 hown hK hP hD hS 0 rfl rfl 7 (by decide) (hts _ u_X4_addUnsure_2) (fun _ h9 => h9) rfl (by decide +kernel) rfl rfl (Nat.le_of_ble_eq_true rfl) dX4_addUnsure_31 (fun H locs hP hD hS => ?_)
  have hP : va_P G.1 vwCl [(h_t, .inr (2, [g_t_complete, g_t_near, g_t_second, g_t_third, g_t_growth, g_t_stacks, g_t_names, .int n3, .ref h_t_unsureStacks, .ref h_t_unsurePlaces, g_t_agreedCount, g_t_agreedStacks, g_t_agreedDistances, g_t_agreedLayers])), (h_t_unsurePlaces, .inl (k_cI G, 4, .inl t2)), (h_t_unsureStacks, .inl (k_cI G, 4, .inl t1))] H := hP
  have hD : va_D A [(h_t, .inr (2, [g_t_complete, g_t_near, g_t_second, g_t_third, g_t_growth, g_t_stacks, g_t_names, .int n3, .ref h_t_unsureStacks, .ref h_t_unsurePlaces, g_t_agreedCount, g_t_agreedStacks, g_t_agreedDistances, g_t_agreedLayers])), (h_t_unsurePlaces, .inl (k_cI G, 4, .inl t2)), (h_t_unsureStacks, .inl (k_cI G, 4, .inl t1))] := hD
  obtain rfl := Option.some.inj hrun
  exact k_retv C0 hP hD hS () rfl dX4_addUnsure_34
theorem u_X4_isAgreed_1 : (Cond.fieldLink RX4 49 "ClosePacking$Lab" "agreedCount" "I") ∈ wsX4_isAgreed := List.mem_of_getElem? (i := 1) (by decide +kernel)
theorem u_X4_isAgreed_2 : (Cond.fieldLink RX4 29 "ClosePacking$Lab" "agreedStacks" "[I") ∈ wsX4_isAgreed := List.mem_of_getElem? (i := 2) (by decide +kernel)
theorem u_X4_isAgreed_3 : (Cond.fieldLink RX4 32 "ClosePacking$Lab" "agreedDistances" "[I") ∈ wsX4_isAgreed := List.mem_of_getElem? (i := 3) (by decide +kernel)
theorem u_X4_isAgreed_4 : (Cond.static yX11_at) ∈ wsX4_isAgreed := List.mem_of_getElem? (i := 4) (by decide +kernel)
theorem u_X4_isAgreed_5 : (Cond.initialized RX11) ∈ wsX4_isAgreed := List.mem_of_getElem? (i := 5) (by decide +kernel)
theorem n_X4_isAgreed_X4 : ∀ w ∈ u_ws RX4 TX4 14, w ∈ wsX4_isAgreed := by decide +kernel
theorem nw_X4_isAgreed_13 : k_nest[13]? = some (.methodLinkNest RX4 56 yX11_at "ClosePacking") := rfl
abbrev rm_X4_isAgreed : Room := { frames := 1, cells := 0, slots := 0, locals := 21 }
theorem e_X4_isAgreed : yX4_isAgreed.cls = RX4 ∧ yX4_isAgreed.cls ≠ "java/lang/invoke/MethodHandle" ∧ yX4_isAgreed.cls ≠ "java/lang/invoke/VarHandle" ∧ (parseMethodDescriptor yX4_isAgreed.desc).map (fun d => d.parameters.length) = some 2 := by decide +kernel
set_option maxHeartbeats 4000000 in
set_option maxRecDepth 100000 in
theorem t_X4_isAgreed_36 {l : Launch} {G : k_G} {p : Program} {e : Env} {s : State} {m : MethodId} {args : Array Value} {below : List Frame} {meth : Method} {c : Code} {A : Nat → Prop} {h_t h_t_agreedDistances h_t_agreedStacks : Nat} {g_t_complete g_t_near g_t_second g_t_third g_t_growth g_t_stacks g_t_names g_t_unsureCount g_t_unsureStacks g_t_unsurePlaces g_t_agreedLayers : Value} {out : Int32} (C0 : k_C G p s m args meth c A cX4_isAgreed RX4 wsX4_isAgreed 4 (some .boolean) "isAgreed") (k2 : Int32 → Int32 → Int32 → Int32 → (Nat → Int32) → (Nat → Int32) → Option (Int32)) (hk2 : ∀ (x1 : Int32) (x2 : Int32) (x3 : Int32) (v_t_agreedCount : Int32) (w_t_agreedDistances : Nat → Int32) (w_t_agreedStacks : Nat → Int32) (H : Heap) (locs : List Loc) (ls : Array Slot), va_P G.1 vwCl [(h_t, .inr (2, [g_t_complete, g_t_near, g_t_second, g_t_third, g_t_growth, g_t_stacks, g_t_names, g_t_unsureCount, g_t_unsureStacks, g_t_unsurePlaces, .int v_t_agreedCount, .ref h_t_agreedStacks, .ref h_t_agreedDistances, g_t_agreedLayers])), (h_t_agreedDistances, .inl (k_cI G, 6, .inl w_t_agreedDistances)), (h_t_agreedStacks, .inl (k_cI G, 6, .inl w_t_agreedStacks))] H → va_D A [(h_t, .inr (2, [g_t_complete, g_t_near, g_t_second, g_t_third, g_t_growth, g_t_stacks, g_t_names, g_t_unsureCount, g_t_unsureStacks, g_t_unsurePlaces, .int v_t_agreedCount, .ref h_t_agreedStacks, .ref h_t_agreedDistances, g_t_agreedLayers])), (h_t_agreedDistances, .inl (k_cI G, 6, .inl w_t_agreedDistances)), (h_t_agreedStacks, .inl (k_cI G, 6, .inl w_t_agreedStacks))] → va_S A s.heap H locs → lv_has ls 4 [(0, .ref h_t), (1, .int x1), (2, .int x2), (3, .int x3)] → k2 x1 x2 x3 v_t_agreedCount w_t_agreedDistances w_t_agreedStacks = some out → W p l e rm_X4_isAgreed s m args below meth c H locs 0 0 (MQ below (k_Qi G A out (fun (_ : Unit) => [(h_t, .inr (2, [g_t_complete, g_t_near, g_t_second, g_t_third, g_t_growth, g_t_stacks, g_t_names, g_t_unsureCount, g_t_unsureStacks, g_t_unsurePlaces, .int v_t_agreedCount, .ref h_t_agreedStacks, .ref h_t_agreedDistances, g_t_agreedLayers])), (h_t_agreedDistances, .inl (k_cI G, 6, .inl w_t_agreedDistances)), (h_t_agreedStacks, .inl (k_cI G, 6, .inl w_t_agreedStacks))])) args s 0 0 A) (F0 m 2 ls [])) : ∀ (x1 : Int32) (x2 : Int32) (x3 : Int32) (v_t_agreedCount : Int32) (w_t_agreedDistances : Nat → Int32) (w_t_agreedStacks : Nat → Int32) (H : Heap) (locs : List Loc) (ls : Array Slot), va_P G.1 vwCl [(h_t, .inr (2, [g_t_complete, g_t_near, g_t_second, g_t_third, g_t_growth, g_t_stacks, g_t_names, g_t_unsureCount, g_t_unsureStacks, g_t_unsurePlaces, .int v_t_agreedCount, .ref h_t_agreedStacks, .ref h_t_agreedDistances, g_t_agreedLayers])), (h_t_agreedDistances, .inl (k_cI G, 6, .inl w_t_agreedDistances)), (h_t_agreedStacks, .inl (k_cI G, 6, .inl w_t_agreedStacks))] H → va_D A [(h_t, .inr (2, [g_t_complete, g_t_near, g_t_second, g_t_third, g_t_growth, g_t_stacks, g_t_names, g_t_unsureCount, g_t_unsureStacks, g_t_unsurePlaces, .int v_t_agreedCount, .ref h_t_agreedStacks, .ref h_t_agreedDistances, g_t_agreedLayers])), (h_t_agreedDistances, .inl (k_cI G, 6, .inl w_t_agreedDistances)), (h_t_agreedStacks, .inl (k_cI G, 6, .inl w_t_agreedStacks))] → va_S A s.heap H locs → lv_has ls 4 [(0, .ref h_t), (1, .int x1), (2, .int x2), (3, .int x3)] → f_X4_isAgreed_36 k2 x1 x2 x3 v_t_agreedCount w_t_agreedDistances w_t_agreedStacks = some out → W p l e rm_X4_isAgreed s m args below meth c H locs 0 0 (MQ below (k_Qi G A out (fun (_ : Unit) => [(h_t, .inr (2, [g_t_complete, g_t_near, g_t_second, g_t_third, g_t_growth, g_t_stacks, g_t_names, g_t_unsureCount, g_t_unsureStacks, g_t_unsurePlaces, .int v_t_agreedCount, .ref h_t_agreedStacks, .ref h_t_agreedDistances, g_t_agreedLayers])), (h_t_agreedDistances, .inl (k_cI G, 6, .inl w_t_agreedDistances)), (h_t_agreedStacks, .inl (k_cI G, 6, .inl w_t_agreedStacks))])) args s 0 0 A) (F0 m 36 ls []) := by
  have hx := C0.1
  have hb := C0.2.1
  have hts := C0.2.2.2.1
  have hown := C0.2.2.2.2.1
  have hK := C0.2.2.2.2.2.2.2.2.1.1
  have hNW := C0.2.2.2.2.2.2.2.2.1.2.1
  have hSF := C0.2.2.2.2.2.2.2.2.1.2.2
  intro x1 x2 x3 v_t_agreedCount w_t_agreedDistances w_t_agreedStacks H locs ls hP hD hS hl hrun
  rw [f_X4_isAgreed_36] at hrun
  refine lv_iinc (v := x3 + 1) (lv' := [(3, .int (x3 + 1)), (0, .ref h_t), (1, .int x1), (2, .int x2)]) hx hb dX4_isAgreed_36 hl (k := 3) rfl rfl (by decide) rfl (fun ls hl => ?_)
  refine lv_goto (tgt := 2) hx hb dX4_isAgreed_39 (by decide) ?_
  exact hk2 x1 x2 (x3 + 1) v_t_agreedCount w_t_agreedDistances w_t_agreedStacks _ _ _ hP hD hS (lv_sub hl [1, 2, 3, 0] rfl) hrun
set_option maxHeartbeats 4000000 in
set_option maxRecDepth 100000 in
theorem t_X4_isAgreed_2 {l : Launch} {G : k_G} {p : Program} {e : Env} {s : State} {m : MethodId} {args : Array Value} {below : List Frame} {meth : Method} {c : Code} {A : Nat → Prop} {h_t h_t_agreedDistances h_t_agreedStacks : Nat} {g_t_complete g_t_near g_t_second g_t_third g_t_growth g_t_stacks g_t_names g_t_unsureCount g_t_unsureStacks g_t_unsurePlaces g_t_agreedLayers : Value} {out : Int32} (C0 : k_C G p s m args meth c A cX4_isAgreed RX4 wsX4_isAgreed 4 (some .boolean) "isAgreed") : ∀ (n : Nat) (x1 : Int32) (x2 : Int32) (x3 : Int32) (v_t_agreedCount : Int32) (w_t_agreedDistances : Nat → Int32) (w_t_agreedStacks : Nat → Int32) (H : Heap) (locs : List Loc) (ls : Array Slot), va_P G.1 vwCl [(h_t, .inr (2, [g_t_complete, g_t_near, g_t_second, g_t_third, g_t_growth, g_t_stacks, g_t_names, g_t_unsureCount, g_t_unsureStacks, g_t_unsurePlaces, .int v_t_agreedCount, .ref h_t_agreedStacks, .ref h_t_agreedDistances, g_t_agreedLayers])), (h_t_agreedDistances, .inl (k_cI G, 6, .inl w_t_agreedDistances)), (h_t_agreedStacks, .inl (k_cI G, 6, .inl w_t_agreedStacks))] H → va_D A [(h_t, .inr (2, [g_t_complete, g_t_near, g_t_second, g_t_third, g_t_growth, g_t_stacks, g_t_names, g_t_unsureCount, g_t_unsureStacks, g_t_unsurePlaces, .int v_t_agreedCount, .ref h_t_agreedStacks, .ref h_t_agreedDistances, g_t_agreedLayers])), (h_t_agreedDistances, .inl (k_cI G, 6, .inl w_t_agreedDistances)), (h_t_agreedStacks, .inl (k_cI G, 6, .inl w_t_agreedStacks))] → va_S A s.heap H locs → lv_has ls 4 [(0, .ref h_t), (1, .int x1), (2, .int x2), (3, .int x3)] → f_X4_isAgreed_2 n x1 x2 x3 v_t_agreedCount w_t_agreedDistances w_t_agreedStacks = some out → W p l e rm_X4_isAgreed s m args below meth c H locs 0 0 (MQ below (k_Qi G A out (fun (_ : Unit) => [(h_t, .inr (2, [g_t_complete, g_t_near, g_t_second, g_t_third, g_t_growth, g_t_stacks, g_t_names, g_t_unsureCount, g_t_unsureStacks, g_t_unsurePlaces, .int v_t_agreedCount, .ref h_t_agreedStacks, .ref h_t_agreedDistances, g_t_agreedLayers])), (h_t_agreedDistances, .inl (k_cI G, 6, .inl w_t_agreedDistances)), (h_t_agreedStacks, .inl (k_cI G, 6, .inl w_t_agreedStacks))])) args s 0 0 A) (F0 m 2 ls []) := by
  have hx := C0.1
  have hb := C0.2.1
  have hts := C0.2.2.2.1
  have hown := C0.2.2.2.2.1
  have hK := C0.2.2.2.2.2.2.2.2.1.1
  have hNW := C0.2.2.2.2.2.2.2.2.1.2.1
  have hSF := C0.2.2.2.2.2.2.2.2.1.2.2
  intro n
  induction n with
  | zero =>
    intro x1 x2 x3 v_t_agreedCount w_t_agreedDistances w_t_agreedStacks H locs ls hP hD hS hl hrun
    rw [f_X4_isAgreed_2] at hrun
    cases hrun
  | succ n ih =>
    intro x1 x2 x3 v_t_agreedCount w_t_agreedDistances w_t_agreedStacks H locs ls hP hD hS hl hrun
    rw [f_X4_isAgreed_2] at hrun
    refine lv_iload_n hx hb dX4_isAgreed_2 rfl (lv_at hl 3 rfl) ?_
    refine lv_aload_n hx hb dX4_isAgreed_3 rfl (lv_at hl 0 rfl) ?_
    refine va_get (D := G.1) (ci := 2) (v := .int v_t_agreedCount) (C := RX4) (T := TX4) (N := 14) hx hb hts n_X4_isAgreed_X4 hown hK hP 0 rfl rfl 10 (by decide) (hts _ u_X4_isAgreed_1) (fun _ h9 => h9) rfl dX4_isAgreed_4 ?_
    refine lv_icmp_ge (tgt := 42) hx hb dX4_isAgreed_7 (by decide) (fun q1 => ?_) (fun q1 => ?_)
    · replace hrun := if_t q1 hrun
      refine lv_iconst (v := 0) hx hb dX4_isAgreed_42 (by decide) ?_
      obtain rfl := Option.some.inj hrun
      exact k_retz C0 hP hD hS () rfl rfl rfl dX4_isAgreed_43
    · replace hrun := if_f q1 hrun
      refine lv_aload_n hx hb dX4_isAgreed_10 rfl (lv_at hl 0 rfl) ?_
      refine va_get (D := G.1) (ci := 2) (v := .ref h_t_agreedStacks) (C := RX4) (T := TX4) (N := 14) hx hb hts n_X4_isAgreed_X4 hown hK hP 0 rfl rfl 11 (by decide) (hts _ u_X4_isAgreed_2) (fun _ h9 => h9) rfl dX4_isAgreed_11 ?_
      refine lv_iload_n hx hb dX4_isAgreed_14 rfl (lv_at hl 3 rfl) ?_
      obtain ⟨t2, et2, hrun⟩ := bd_inv hrun
      refine k_calli (w2 := fun (_ : Unit) => [(h_t, .inr (2, [g_t_complete, g_t_near, g_t_second, g_t_third, g_t_growth, g_t_stacks, g_t_names, g_t_unsureCount, g_t_unsureStacks, g_t_unsurePlaces, .int v_t_agreedCount, .ref h_t_agreedStacks, .ref h_t_agreedDistances, g_t_agreedLayers])), (h_t_agreedDistances, .inl (k_cI G, 6, .inl w_t_agreedDistances)), (h_t_agreedStacks, .inl (k_cI G, 6, .inl w_t_agreedStacks))]) C0 (k_runSN (rest := []) C0 (c_X11_at et2) (va_cnB 2 hts gX4_isAgreed_X11_at_n56 rfl rfl rfl (k_nw hNW 13 nw_X4_isAgreed_13) (hts _ u_X4_isAgreed_5) e_X11_at.2 ⟨Nat.le_of_ble_eq_true rfl, Nat.le_of_ble_eq_true rfl⟩) (hts _ u_X4_isAgreed_4) hP hD hS [2] rfl (by decide) rfl hl.1 rfl (Nat.le_of_ble_eq_true rfl) dX4_isAgreed_15 ⟨Nat.le_of_ble_eq_true rfl, Nat.le_of_ble_eq_true rfl⟩) hP hD hS [2] [0, 1] rfl rfl (by decide) (by decide) [0, 1, 2] (by decide) (fun _ => rfl) (fun _ H locs hP hD hS => ?_)
      have hP : va_P G.1 vwCl [(h_t, .inr (2, [g_t_complete, g_t_near, g_t_second, g_t_third, g_t_growth, g_t_stacks, g_t_names, g_t_unsureCount, g_t_unsureStacks, g_t_unsurePlaces, .int v_t_agreedCount, .ref h_t_agreedStacks, .ref h_t_agreedDistances, g_t_agreedLayers])), (h_t_agreedDistances, .inl (k_cI G, 6, .inl w_t_agreedDistances)), (h_t_agreedStacks, .inl (k_cI G, 6, .inl w_t_agreedStacks))] H := hP
      have hD : va_D A [(h_t, .inr (2, [g_t_complete, g_t_near, g_t_second, g_t_third, g_t_growth, g_t_stacks, g_t_names, g_t_unsureCount, g_t_unsureStacks, g_t_unsurePlaces, .int v_t_agreedCount, .ref h_t_agreedStacks, .ref h_t_agreedDistances, g_t_agreedLayers])), (h_t_agreedDistances, .inl (k_cI G, 6, .inl w_t_agreedDistances)), (h_t_agreedStacks, .inl (k_cI G, 6, .inl w_t_agreedStacks))] := hD
      refine lv_iload_n hx hb dX4_isAgreed_18 rfl (lv_at hl 1 rfl) ?_
      refine lv_icmp_ne (tgt := 36) hx hb dX4_isAgreed_19 (by decide) (fun q3 => ?_) (fun q3 => ?_)
      · replace hrun := if_f q3 hrun
        exact t_X4_isAgreed_36 C0 (fun x1 x2 x3 v_t_agreedCount w_t_agreedDistances w_t_agreedStacks => f_X4_isAgreed_2 n x1 x2 x3 v_t_agreedCount w_t_agreedDistances w_t_agreedStacks) ih x1 x2 x3 v_t_agreedCount w_t_agreedDistances w_t_agreedStacks _ _ _ hP hD hS hl hrun
      · replace hrun := if_t q3 hrun
        refine lv_aload_n hx hb dX4_isAgreed_22 rfl (lv_at hl 0 rfl) ?_
        refine va_get (D := G.1) (ci := 2) (v := .ref h_t_agreedDistances) (C := RX4) (T := TX4) (N := 14) hx hb hts n_X4_isAgreed_X4 hown hK hP 0 rfl rfl 12 (by decide) (hts _ u_X4_isAgreed_3) (fun _ h9 => h9) rfl dX4_isAgreed_23 ?_
        refine lv_iload_n hx hb dX4_isAgreed_26 rfl (lv_at hl 3 rfl) ?_
        obtain ⟨t4, et4, hrun⟩ := bd_inv hrun
        refine k_calli (w2 := fun (_ : Unit) => [(h_t, .inr (2, [g_t_complete, g_t_near, g_t_second, g_t_third, g_t_growth, g_t_stacks, g_t_names, g_t_unsureCount, g_t_unsureStacks, g_t_unsurePlaces, .int v_t_agreedCount, .ref h_t_agreedStacks, .ref h_t_agreedDistances, g_t_agreedLayers])), (h_t_agreedDistances, .inl (k_cI G, 6, .inl w_t_agreedDistances)), (h_t_agreedStacks, .inl (k_cI G, 6, .inl w_t_agreedStacks))]) C0 (k_runSN (rest := []) C0 (c_X11_at et4) (va_cnB 2 hts gX4_isAgreed_X11_at_n56 rfl rfl rfl (k_nw hNW 13 nw_X4_isAgreed_13) (hts _ u_X4_isAgreed_5) e_X11_at.2 ⟨Nat.le_of_ble_eq_true rfl, Nat.le_of_ble_eq_true rfl⟩) (hts _ u_X4_isAgreed_4) hP hD hS [1] rfl (by decide) rfl hl.1 rfl (Nat.le_of_ble_eq_true rfl) dX4_isAgreed_27 ⟨Nat.le_of_ble_eq_true rfl, Nat.le_of_ble_eq_true rfl⟩) hP hD hS [1] [0, 2] rfl rfl (by decide) (by decide) [0, 2, 1] (by decide) (fun _ => rfl) (fun _ H locs hP hD hS => ?_)
        have hP : va_P G.1 vwCl [(h_t, .inr (2, [g_t_complete, g_t_near, g_t_second, g_t_third, g_t_growth, g_t_stacks, g_t_names, g_t_unsureCount, g_t_unsureStacks, g_t_unsurePlaces, .int v_t_agreedCount, .ref h_t_agreedStacks, .ref h_t_agreedDistances, g_t_agreedLayers])), (h_t_agreedDistances, .inl (k_cI G, 6, .inl w_t_agreedDistances)), (h_t_agreedStacks, .inl (k_cI G, 6, .inl w_t_agreedStacks))] H := hP
        have hD : va_D A [(h_t, .inr (2, [g_t_complete, g_t_near, g_t_second, g_t_third, g_t_growth, g_t_stacks, g_t_names, g_t_unsureCount, g_t_unsureStacks, g_t_unsurePlaces, .int v_t_agreedCount, .ref h_t_agreedStacks, .ref h_t_agreedDistances, g_t_agreedLayers])), (h_t_agreedDistances, .inl (k_cI G, 6, .inl w_t_agreedDistances)), (h_t_agreedStacks, .inl (k_cI G, 6, .inl w_t_agreedStacks))] := hD
        refine lv_iload_n hx hb dX4_isAgreed_30 rfl (lv_at hl 2 rfl) ?_
        refine lv_icmp_ne (tgt := 36) hx hb dX4_isAgreed_31 (by decide) (fun q5 => ?_) (fun q5 => ?_)
        · replace hrun := if_f q5 hrun
          exact t_X4_isAgreed_36 C0 (fun x1 x2 x3 v_t_agreedCount w_t_agreedDistances w_t_agreedStacks => f_X4_isAgreed_2 n x1 x2 x3 v_t_agreedCount w_t_agreedDistances w_t_agreedStacks) ih x1 x2 x3 v_t_agreedCount w_t_agreedDistances w_t_agreedStacks _ _ _ hP hD hS hl hrun
        · replace hrun := if_t q5 hrun
          refine lv_iconst (v := 1) hx hb dX4_isAgreed_34 (by decide) ?_
          obtain rfl := Option.some.inj hrun
          exact k_retz C0 hP hD hS () rfl rfl rfl dX4_isAgreed_35
set_option maxHeartbeats 4000000 in
set_option maxRecDepth 100000 in
theorem c_X4_isAgreed {l : Launch} {G : k_G} {h_t h_t_agreedDistances h_t_agreedStacks : Nat} {g_t_complete g_t_near g_t_second g_t_third g_t_growth g_t_stacks g_t_names g_t_unsureCount g_t_unsureStacks g_t_unsurePlaces g_t_agreedLayers : Value} {sz : Nat} {p1 : Int32} {p2 : Int32} {v_t_agreedCount : Int32} {w_t_agreedDistances : Nat → Int32} {w_t_agreedStacks : Nat → Int32} {out : Int32} (hrun : f_X4_isAgreed p1 p2 v_t_agreedCount w_t_agreedDistances w_t_agreedStacks = some out) : k_Ci l G yX4_isAgreed wsX4_isAgreed rm_X4_isAgreed [.ref h_t, .int p1, .int p2] [(h_t, .inr (2, [g_t_complete, g_t_near, g_t_second, g_t_third, g_t_growth, g_t_stacks, g_t_names, g_t_unsureCount, g_t_unsureStacks, g_t_unsurePlaces, .int v_t_agreedCount, .ref h_t_agreedStacks, .ref h_t_agreedDistances, g_t_agreedLayers])), (h_t_agreedDistances, .inl (k_cI G, 6, .inl w_t_agreedDistances)), (h_t_agreedStacks, .inl (k_cI G, 6, .inl w_t_agreedStacks))] sz out (fun (_ : Unit) => [(h_t, .inr (2, [g_t_complete, g_t_near, g_t_second, g_t_third, g_t_growth, g_t_stacks, g_t_names, g_t_unsureCount, g_t_unsureStacks, g_t_unsurePlaces, .int v_t_agreedCount, .ref h_t_agreedStacks, .ref h_t_agreedDistances, g_t_agreedLayers])), (h_t_agreedDistances, .inl (k_cI G, 6, .inl w_t_agreedDistances)), (h_t_agreedStacks, .inl (k_cI G, 6, .inl w_t_agreedStacks))]) 0 0 := by
  refine k_of (cc := cX4_isAgreed) (nL := 4) (ret := some .boolean) (own := RX4) (nm := "isAgreed") (by decide) rfl rfl rfl rfl ?_
  intro p e s m args below meth c ls hsz C0 hP hD hS hl
  have hl : lv_has ls 4 [(0, .ref h_t), (1, .int p1), (2, .int p2)] := hl
  generalize hH : s.heap = H at hP
  have hS : va_S (va_A [(h_t, .inr (2, [g_t_complete, g_t_near, g_t_second, g_t_third, g_t_growth, g_t_stacks, g_t_names, g_t_unsureCount, g_t_unsureStacks, g_t_unsurePlaces, .int v_t_agreedCount, .ref h_t_agreedStacks, .ref h_t_agreedDistances, g_t_agreedLayers])), (h_t_agreedDistances, .inl (k_cI G, 6, .inl w_t_agreedDistances)), (h_t_agreedStacks, .inl (k_cI G, 6, .inl w_t_agreedStacks))] sz) s.heap H [] := by rw [← hH]; exact hS
  clear hH
  generalize va_A [(h_t, .inr (2, [g_t_complete, g_t_near, g_t_second, g_t_third, g_t_growth, g_t_stacks, g_t_names, g_t_unsureCount, g_t_unsureStacks, g_t_unsurePlaces, .int v_t_agreedCount, .ref h_t_agreedStacks, .ref h_t_agreedDistances, g_t_agreedLayers])), (h_t_agreedDistances, .inl (k_cI G, 6, .inl w_t_agreedDistances)), (h_t_agreedStacks, .inl (k_cI G, 6, .inl w_t_agreedStacks))] sz = A at C0 hD hS ⊢
  have hx := C0.1
  have hb := C0.2.1
  have hts := C0.2.2.2.1
  have hown := C0.2.2.2.2.1
  have hK := C0.2.2.2.2.2.2.2.2.1.1
  have hNW := C0.2.2.2.2.2.2.2.2.1.2.1
  have hSF := C0.2.2.2.2.2.2.2.2.1.2.2
  rw [f_X4_isAgreed] at hrun
  refine lv_iconst (v := 0) hx hb dX4_isAgreed_0 (by decide) ?_
  refine lv_istore_n (lv' := [(3, .int (0 : Int32)), (0, .ref h_t), (1, .int p1), (2, .int p2)]) hx hb dX4_isAgreed_1 rfl hl (by decide) rfl (fun ls hl => ?_)
  exact t_X4_isAgreed_2 C0 kFU p1 p2 (0 : Int32) v_t_agreedCount w_t_agreedDistances w_t_agreedStacks _ _ _ hP hD hS (lv_sub hl [1, 2, 3, 0] rfl) hrun
theorem u_X4_addAgreed_1 : (Cond.fieldLink RX4 29 "ClosePacking$Lab" "agreedStacks" "[I") ∈ wsX4_addAgreed := List.mem_of_getElem? (i := 1) (by decide +kernel)
theorem u_X4_addAgreed_2 : (Cond.fieldLink RX4 49 "ClosePacking$Lab" "agreedCount" "I") ∈ wsX4_addAgreed := List.mem_of_getElem? (i := 2) (by decide +kernel)
theorem u_X4_addAgreed_3 : (Cond.fieldLink RX4 32 "ClosePacking$Lab" "agreedDistances" "[I") ∈ wsX4_addAgreed := List.mem_of_getElem? (i := 3) (by decide +kernel)
theorem u_X4_addAgreed_4 : (Cond.fieldLink RX4 35 "ClosePacking$Lab" "agreedLayers" "[I") ∈ wsX4_addAgreed := List.mem_of_getElem? (i := 4) (by decide +kernel)
theorem u_X4_addAgreed_5 : (Cond.static yX11_set) ∈ wsX4_addAgreed := List.mem_of_getElem? (i := 5) (by decide +kernel)
theorem u_X4_addAgreed_6 : (Cond.initialized RX11) ∈ wsX4_addAgreed := List.mem_of_getElem? (i := 6) (by decide +kernel)
theorem n_X4_addAgreed_X4 : ∀ w ∈ u_ws RX4 TX4 14, w ∈ wsX4_addAgreed := by decide +kernel
theorem nw_X4_addAgreed_14 : k_nest[14]? = some (.methodLinkNest RX4 60 yX11_set "ClosePacking") := rfl
abbrev rm_X4_addAgreed : Room := { frames := 1, cells := 0, slots := 0, locals := 22 }
theorem e_X4_addAgreed : yX4_addAgreed.cls = RX4 ∧ yX4_addAgreed.cls ≠ "java/lang/invoke/MethodHandle" ∧ yX4_addAgreed.cls ≠ "java/lang/invoke/VarHandle" ∧ (parseMethodDescriptor yX4_addAgreed.desc).map (fun d => d.parameters.length) = some 3 := by decide +kernel
set_option maxHeartbeats 4000000 in
set_option maxRecDepth 100000 in
theorem c_X4_addAgreed {l : Launch} {G : k_G} {h_t h_t_agreedDistances h_t_agreedLayers h_t_agreedStacks : Nat} {g_t_complete g_t_near g_t_second g_t_third g_t_growth g_t_stacks g_t_names g_t_unsureCount g_t_unsureStacks g_t_unsurePlaces : Value} {sz : Nat} {p1 : Int32} {p2 : Int32} {p3 : Int32} {v_t_agreedCount : Int32} {w_t_agreedDistances : Nat → Int32} {w_t_agreedLayers : Nat → Int32} {w_t_agreedStacks : Nat → Int32} {out : Int32 × (Nat → Int32) × (Nat → Int32) × (Nat → Int32)} (hrun : f_X4_addAgreed p1 p2 p3 v_t_agreedCount w_t_agreedDistances w_t_agreedLayers w_t_agreedStacks = some out) : k_Cv l G yX4_addAgreed wsX4_addAgreed rm_X4_addAgreed [.ref h_t, .int p1, .int p2, .int p3] [(h_t, .inr (2, [g_t_complete, g_t_near, g_t_second, g_t_third, g_t_growth, g_t_stacks, g_t_names, g_t_unsureCount, g_t_unsureStacks, g_t_unsurePlaces, .int v_t_agreedCount, .ref h_t_agreedStacks, .ref h_t_agreedDistances, .ref h_t_agreedLayers])), (h_t_agreedDistances, .inl (k_cI G, 6, .inl w_t_agreedDistances)), (h_t_agreedLayers, .inl (k_cI G, 6, .inl w_t_agreedLayers)), (h_t_agreedStacks, .inl (k_cI G, 6, .inl w_t_agreedStacks))] sz (fun (_ : Unit) => [(h_t, .inr (2, [g_t_complete, g_t_near, g_t_second, g_t_third, g_t_growth, g_t_stacks, g_t_names, g_t_unsureCount, g_t_unsureStacks, g_t_unsurePlaces, .int out.1, .ref h_t_agreedStacks, .ref h_t_agreedDistances, .ref h_t_agreedLayers])), (h_t_agreedDistances, .inl (k_cI G, 6, .inl out.2.1)), (h_t_agreedLayers, .inl (k_cI G, 6, .inl out.2.2.1)), (h_t_agreedStacks, .inl (k_cI G, 6, .inl out.2.2.2))]) 0 0 := by
  refine k_of (cc := cX4_addAgreed) (nL := 4) (ret := none) (own := RX4) (nm := "addAgreed") (by decide) rfl rfl rfl rfl ?_
  intro p e s m args below meth c ls hsz C0 hP hD hS hl
  have hl : lv_has ls 4 [(0, .ref h_t), (1, .int p1), (2, .int p2), (3, .int p3)] := hl
  generalize hH : s.heap = H at hP
  have hS : va_S (va_A [(h_t, .inr (2, [g_t_complete, g_t_near, g_t_second, g_t_third, g_t_growth, g_t_stacks, g_t_names, g_t_unsureCount, g_t_unsureStacks, g_t_unsurePlaces, .int v_t_agreedCount, .ref h_t_agreedStacks, .ref h_t_agreedDistances, .ref h_t_agreedLayers])), (h_t_agreedDistances, .inl (k_cI G, 6, .inl w_t_agreedDistances)), (h_t_agreedLayers, .inl (k_cI G, 6, .inl w_t_agreedLayers)), (h_t_agreedStacks, .inl (k_cI G, 6, .inl w_t_agreedStacks))] sz) s.heap H [] := by rw [← hH]; exact hS
  clear hH
  generalize va_A [(h_t, .inr (2, [g_t_complete, g_t_near, g_t_second, g_t_third, g_t_growth, g_t_stacks, g_t_names, g_t_unsureCount, g_t_unsureStacks, g_t_unsurePlaces, .int v_t_agreedCount, .ref h_t_agreedStacks, .ref h_t_agreedDistances, .ref h_t_agreedLayers])), (h_t_agreedDistances, .inl (k_cI G, 6, .inl w_t_agreedDistances)), (h_t_agreedLayers, .inl (k_cI G, 6, .inl w_t_agreedLayers)), (h_t_agreedStacks, .inl (k_cI G, 6, .inl w_t_agreedStacks))] sz = A at C0 hD hS ⊢
  have hx := C0.1
  have hb := C0.2.1
  have hts := C0.2.2.2.1
  have hown := C0.2.2.2.2.1
  have hK := C0.2.2.2.2.2.2.2.2.1.1
  have hNW := C0.2.2.2.2.2.2.2.2.1.2.1
  have hSF := C0.2.2.2.2.2.2.2.2.1.2.2
  rw [f_X4_addAgreed] at hrun
  refine lv_aload_n hx hb dX4_addAgreed_0 rfl (lv_at hl 0 rfl) ?_
  refine va_get (D := G.1) (ci := 2) (v := .ref h_t_agreedStacks) (C := RX4) (T := TX4) (N := 14) hx hb hts n_X4_addAgreed_X4 hown hK hP 0 rfl rfl 11 (by decide) (hts _ u_X4_addAgreed_1) (fun _ h9 => h9) rfl dX4_addAgreed_1 ?_
  refine lv_aload_n hx hb dX4_addAgreed_4 rfl (lv_at hl 0 rfl) ?_
  refine va_get (D := G.1) (ci := 2) (v := .int v_t_agreedCount) (C := RX4) (T := TX4) (N := 14) hx hb hts n_X4_addAgreed_X4 hown hK hP 0 rfl rfl 10 (by decide) (hts _ u_X4_addAgreed_2) (fun _ h9 => h9) rfl dX4_addAgreed_5 ?_
  refine lv_iload_n hx hb dX4_addAgreed_8 rfl (lv_at hl 1 rfl) ?_
  obtain ⟨t1, et1, hrun⟩ := bd_inv hrun
  refine k_callv (w2 := fun (_ : Unit) => [(h_t, .inr (2, [g_t_complete, g_t_near, g_t_second, g_t_third, g_t_growth, g_t_stacks, g_t_names, g_t_unsureCount, g_t_unsureStacks, g_t_unsurePlaces, .int v_t_agreedCount, .ref h_t_agreedStacks, .ref h_t_agreedDistances, .ref h_t_agreedLayers])), (h_t_agreedDistances, .inl (k_cI G, 6, .inl w_t_agreedDistances)), (h_t_agreedLayers, .inl (k_cI G, 6, .inl w_t_agreedLayers)), (h_t_agreedStacks, .inl (k_cI G, 6, .inl t1))]) C0 (k_runSN (rest := []) C0 (c_X11_set et1) (va_cnB 3 hts gX4_addAgreed_X11_set_n60 rfl rfl rfl (k_nw hNW 14 nw_X4_addAgreed_14) (hts _ u_X4_addAgreed_6) e_X11_set.2 ⟨Nat.le_of_ble_eq_true rfl, Nat.le_of_ble_eq_true rfl⟩) (hts _ u_X4_addAgreed_5) hP hD hS [3] rfl (by decide) rfl hl.1 rfl (Nat.le_of_ble_eq_true rfl) dX4_addAgreed_9 ⟨Nat.le_of_ble_eq_true rfl, Nat.le_of_ble_eq_true rfl⟩) hP hD hS [3] [0, 1, 2] rfl rfl (by decide) (by decide) [0, 1, 2, 3] (by decide) (fun _ => rfl) (fun _ H locs hP hD hS => ?_)
  have hP : va_P G.1 vwCl [(h_t, .inr (2, [g_t_complete, g_t_near, g_t_second, g_t_third, g_t_growth, g_t_stacks, g_t_names, g_t_unsureCount, g_t_unsureStacks, g_t_unsurePlaces, .int v_t_agreedCount, .ref h_t_agreedStacks, .ref h_t_agreedDistances, .ref h_t_agreedLayers])), (h_t_agreedDistances, .inl (k_cI G, 6, .inl w_t_agreedDistances)), (h_t_agreedLayers, .inl (k_cI G, 6, .inl w_t_agreedLayers)), (h_t_agreedStacks, .inl (k_cI G, 6, .inl t1))] H := hP
  have hD : va_D A [(h_t, .inr (2, [g_t_complete, g_t_near, g_t_second, g_t_third, g_t_growth, g_t_stacks, g_t_names, g_t_unsureCount, g_t_unsureStacks, g_t_unsurePlaces, .int v_t_agreedCount, .ref h_t_agreedStacks, .ref h_t_agreedDistances, .ref h_t_agreedLayers])), (h_t_agreedDistances, .inl (k_cI G, 6, .inl w_t_agreedDistances)), (h_t_agreedLayers, .inl (k_cI G, 6, .inl w_t_agreedLayers)), (h_t_agreedStacks, .inl (k_cI G, 6, .inl t1))] := hD
  refine lv_aload_n hx hb dX4_addAgreed_12 rfl (lv_at hl 0 rfl) ?_
  refine va_get (D := G.1) (ci := 2) (v := .ref h_t_agreedDistances) (C := RX4) (T := TX4) (N := 14) hx hb hts n_X4_addAgreed_X4 hown hK hP 0 rfl rfl 12 (by decide) (hts _ u_X4_addAgreed_3) (fun _ h9 => h9) rfl dX4_addAgreed_13 ?_
  refine lv_aload_n hx hb dX4_addAgreed_16 rfl (lv_at hl 0 rfl) ?_
  refine va_get (D := G.1) (ci := 2) (v := .int v_t_agreedCount) (C := RX4) (T := TX4) (N := 14) hx hb hts n_X4_addAgreed_X4 hown hK hP 0 rfl rfl 10 (by decide) (hts _ u_X4_addAgreed_2) (fun _ h9 => h9) rfl dX4_addAgreed_17 ?_
  refine lv_iload_n hx hb dX4_addAgreed_20 rfl (lv_at hl 2 rfl) ?_
  obtain ⟨t2, et2, hrun⟩ := bd_inv hrun
  refine k_callv (w2 := fun (_ : Unit) => [(h_t, .inr (2, [g_t_complete, g_t_near, g_t_second, g_t_third, g_t_growth, g_t_stacks, g_t_names, g_t_unsureCount, g_t_unsureStacks, g_t_unsurePlaces, .int v_t_agreedCount, .ref h_t_agreedStacks, .ref h_t_agreedDistances, .ref h_t_agreedLayers])), (h_t_agreedDistances, .inl (k_cI G, 6, .inl t2)), (h_t_agreedLayers, .inl (k_cI G, 6, .inl w_t_agreedLayers)), (h_t_agreedStacks, .inl (k_cI G, 6, .inl t1))]) C0 (k_runSN (rest := []) C0 (c_X11_set et2) (va_cnB 3 hts gX4_addAgreed_X11_set_n60 rfl rfl rfl (k_nw hNW 14 nw_X4_addAgreed_14) (hts _ u_X4_addAgreed_6) e_X11_set.2 ⟨Nat.le_of_ble_eq_true rfl, Nat.le_of_ble_eq_true rfl⟩) (hts _ u_X4_addAgreed_5) hP hD hS [1] rfl (by decide) rfl hl.1 rfl (Nat.le_of_ble_eq_true rfl) dX4_addAgreed_21 ⟨Nat.le_of_ble_eq_true rfl, Nat.le_of_ble_eq_true rfl⟩) hP hD hS [1] [0, 2, 3] rfl rfl (by decide) (by decide) [0, 3, 1, 2] (by decide) (fun _ => rfl) (fun _ H locs hP hD hS => ?_)
  have hP : va_P G.1 vwCl [(h_t, .inr (2, [g_t_complete, g_t_near, g_t_second, g_t_third, g_t_growth, g_t_stacks, g_t_names, g_t_unsureCount, g_t_unsureStacks, g_t_unsurePlaces, .int v_t_agreedCount, .ref h_t_agreedStacks, .ref h_t_agreedDistances, .ref h_t_agreedLayers])), (h_t_agreedDistances, .inl (k_cI G, 6, .inl t2)), (h_t_agreedLayers, .inl (k_cI G, 6, .inl w_t_agreedLayers)), (h_t_agreedStacks, .inl (k_cI G, 6, .inl t1))] H := hP
  have hD : va_D A [(h_t, .inr (2, [g_t_complete, g_t_near, g_t_second, g_t_third, g_t_growth, g_t_stacks, g_t_names, g_t_unsureCount, g_t_unsureStacks, g_t_unsurePlaces, .int v_t_agreedCount, .ref h_t_agreedStacks, .ref h_t_agreedDistances, .ref h_t_agreedLayers])), (h_t_agreedDistances, .inl (k_cI G, 6, .inl t2)), (h_t_agreedLayers, .inl (k_cI G, 6, .inl w_t_agreedLayers)), (h_t_agreedStacks, .inl (k_cI G, 6, .inl t1))] := hD
  refine lv_aload_n hx hb dX4_addAgreed_24 rfl (lv_at hl 0 rfl) ?_
  refine va_get (D := G.1) (ci := 2) (v := .ref h_t_agreedLayers) (C := RX4) (T := TX4) (N := 14) hx hb hts n_X4_addAgreed_X4 hown hK hP 0 rfl rfl 13 (by decide) (hts _ u_X4_addAgreed_4) (fun _ h9 => h9) rfl dX4_addAgreed_25 ?_
  refine lv_aload_n hx hb dX4_addAgreed_28 rfl (lv_at hl 0 rfl) ?_
  refine va_get (D := G.1) (ci := 2) (v := .int v_t_agreedCount) (C := RX4) (T := TX4) (N := 14) hx hb hts n_X4_addAgreed_X4 hown hK hP 0 rfl rfl 10 (by decide) (hts _ u_X4_addAgreed_2) (fun _ h9 => h9) rfl dX4_addAgreed_29 ?_
  refine lv_iload_n hx hb dX4_addAgreed_32 rfl (lv_at hl 3 rfl) ?_
  obtain ⟨t3, et3, hrun⟩ := bd_inv hrun
  refine k_callv (w2 := fun (_ : Unit) => [(h_t, .inr (2, [g_t_complete, g_t_near, g_t_second, g_t_third, g_t_growth, g_t_stacks, g_t_names, g_t_unsureCount, g_t_unsureStacks, g_t_unsurePlaces, .int v_t_agreedCount, .ref h_t_agreedStacks, .ref h_t_agreedDistances, .ref h_t_agreedLayers])), (h_t_agreedDistances, .inl (k_cI G, 6, .inl t2)), (h_t_agreedLayers, .inl (k_cI G, 6, .inl t3)), (h_t_agreedStacks, .inl (k_cI G, 6, .inl t1))]) C0 (k_runSN (rest := []) C0 (c_X11_set et3) (va_cnB 3 hts gX4_addAgreed_X11_set_n60 rfl rfl rfl (k_nw hNW 14 nw_X4_addAgreed_14) (hts _ u_X4_addAgreed_6) e_X11_set.2 ⟨Nat.le_of_ble_eq_true rfl, Nat.le_of_ble_eq_true rfl⟩) (hts _ u_X4_addAgreed_5) hP hD hS [2] rfl (by decide) rfl hl.1 rfl (Nat.le_of_ble_eq_true rfl) dX4_addAgreed_33 ⟨Nat.le_of_ble_eq_true rfl, Nat.le_of_ble_eq_true rfl⟩) hP hD hS [2] [0, 1, 3] rfl rfl (by decide) (by decide) [0, 1, 3, 2] (by decide) (fun _ => rfl) (fun _ H locs hP hD hS => ?_)
  have hP : va_P G.1 vwCl [(h_t, .inr (2, [g_t_complete, g_t_near, g_t_second, g_t_third, g_t_growth, g_t_stacks, g_t_names, g_t_unsureCount, g_t_unsureStacks, g_t_unsurePlaces, .int v_t_agreedCount, .ref h_t_agreedStacks, .ref h_t_agreedDistances, .ref h_t_agreedLayers])), (h_t_agreedDistances, .inl (k_cI G, 6, .inl t2)), (h_t_agreedLayers, .inl (k_cI G, 6, .inl t3)), (h_t_agreedStacks, .inl (k_cI G, 6, .inl t1))] H := hP
  have hD : va_D A [(h_t, .inr (2, [g_t_complete, g_t_near, g_t_second, g_t_third, g_t_growth, g_t_stacks, g_t_names, g_t_unsureCount, g_t_unsureStacks, g_t_unsurePlaces, .int v_t_agreedCount, .ref h_t_agreedStacks, .ref h_t_agreedDistances, .ref h_t_agreedLayers])), (h_t_agreedDistances, .inl (k_cI G, 6, .inl t2)), (h_t_agreedLayers, .inl (k_cI G, 6, .inl t3)), (h_t_agreedStacks, .inl (k_cI G, 6, .inl t1))] := hD
  refine lv_aload_n hx hb dX4_addAgreed_36 rfl (lv_at hl 0 rfl) ?_
  refine lv_dup hx hb dX4_addAgreed_37 rfl ?_
  refine va_get (D := G.1) (ci := 2) (v := .int v_t_agreedCount) (C := RX4) (T := TX4) (N := 14) hx hb hts n_X4_addAgreed_X4 hown hK hP 0 rfl rfl 10 (by decide) (hts _ u_X4_addAgreed_2) (fun _ h9 => h9) rfl dX4_addAgreed_38 ?_
  refine lv_iconst (v := 1) hx hb dX4_addAgreed_41 (by decide) ?_
  refine lv_iadd hx hb dX4_addAgreed_42 ?_
  obtain ⟨n4, en, hrun⟩ := lt_inv hrun
  refine k_nmi en ?_
  clear en
  refine va_put (D := G.1) (ci := 2) (v := .int n4) (ty := .int) (C := RX4) (T := TX4) (N := 14) hx hb hts n_X4_addAgreed_X4 tyX4 tyX4_ok nmX4 hown hK hP hD hS 0 rfl rfl 10 (by decide) (hts _ u_X4_addAgreed_2) (fun _ h9 => h9) rfl (by decide +kernel) rfl rfl (Nat.le_of_ble_eq_true rfl) dX4_addAgreed_43 (fun H locs hP hD hS => ?_)
  have hP : va_P G.1 vwCl [(h_t, .inr (2, [g_t_complete, g_t_near, g_t_second, g_t_third, g_t_growth, g_t_stacks, g_t_names, g_t_unsureCount, g_t_unsureStacks, g_t_unsurePlaces, .int n4, .ref h_t_agreedStacks, .ref h_t_agreedDistances, .ref h_t_agreedLayers])), (h_t_agreedDistances, .inl (k_cI G, 6, .inl t2)), (h_t_agreedLayers, .inl (k_cI G, 6, .inl t3)), (h_t_agreedStacks, .inl (k_cI G, 6, .inl t1))] H := hP
  have hD : va_D A [(h_t, .inr (2, [g_t_complete, g_t_near, g_t_second, g_t_third, g_t_growth, g_t_stacks, g_t_names, g_t_unsureCount, g_t_unsureStacks, g_t_unsurePlaces, .int n4, .ref h_t_agreedStacks, .ref h_t_agreedDistances, .ref h_t_agreedLayers])), (h_t_agreedDistances, .inl (k_cI G, 6, .inl t2)), (h_t_agreedLayers, .inl (k_cI G, 6, .inl t3)), (h_t_agreedStacks, .inl (k_cI G, 6, .inl t1))] := hD
  obtain rfl := Option.some.inj hrun
  exact k_retv C0 hP hD hS () rfl dX4_addAgreed_46
abbrev rm_X4_products : Room := { frames := 1, cells := 0, slots := 0, locals := 20 }
theorem e_X4_products : yX4_products.cls = RX4 ∧ yX4_products.cls ≠ "java/lang/invoke/MethodHandle" ∧ yX4_products.cls ≠ "java/lang/invoke/VarHandle" ∧ (parseMethodDescriptor yX4_products.desc).map (fun d => d.parameters.length) = some 3 := by decide +kernel
set_option maxHeartbeats 4000000 in
set_option maxRecDepth 100000 in
theorem c_X4_products {l : Launch} {G : k_G} {sz : Nat} {p0 : Int32} {p1 : Int32} {p2 : Int32} {out : Int32} (hrun : f_X4_products p0 p1 p2 = some out) : k_Ci l G yX4_products wsX4_products rm_X4_products [.int p0, .int p1, .int p2] [] sz out (fun (_ : Unit) => []) 0 0 := by
  refine k_of (cc := cX4_products) (nL := 3) (ret := some .int) (own := RX4) (nm := "products") (by decide) rfl rfl rfl rfl ?_
  intro p e s m args below meth c ls hsz C0 hP hD hS hl
  have hl : lv_has ls 3 [(0, .int p0), (1, .int p1), (2, .int p2)] := hl
  generalize hH : s.heap = H at hP
  have hS : va_S (va_A [] sz) s.heap H [] := by rw [← hH]; exact hS
  clear hH
  generalize va_A [] sz = A at C0 hD hS ⊢
  have hx := C0.1
  have hb := C0.2.1
  have hts := C0.2.2.2.1
  have hown := C0.2.2.2.2.1
  have hK := C0.2.2.2.2.2.2.2.2.1.1
  have hNW := C0.2.2.2.2.2.2.2.2.1.2.1
  have hSF := C0.2.2.2.2.2.2.2.2.1.2.2
  rw [f_X4_products] at hrun
  refine lv_iload_n hx hb dX4_products_0 rfl (lv_at hl 2 rfl) ?_
  refine lv_iconst (v := 2) hx hb dX4_products_1 (by decide) ?_
  refine lv_iload_n hx hb dX4_products_2 rfl (lv_at hl 0 rfl) ?_
  refine lv_iload_n hx hb dX4_products_3 rfl (lv_at hl 1 rfl) ?_
  refine lv_ixor hx hb dX4_products_4 ?_
  obtain ⟨t1, et1, hrun⟩ := bd_inv hrun
  refine k_calli0 C0 (k_runS (rest := [.int (2 : Int32), .int p2]) C0 (c_J6_bitCount_0f7a4 et1) (va_cwS 1 hts gX4_products_J6_bitCount_0f7a4 rfl rfl rfl e_J6_bitCount_0f7a4.2 ⟨Nat.le_of_ble_eq_true rfl, Nat.le_of_ble_eq_true rfl⟩) hP hD hS [] rfl (by decide) rfl hl.1 rfl (Nat.le_of_ble_eq_true rfl) dX4_products_5 ⟨Nat.le_of_ble_eq_true rfl, Nat.le_of_ble_eq_true rfl⟩) hP hS (fun H locs hP hS => ?_)
  refine lv_imul hx hb dX4_products_8 ?_
  refine lv_isub hx hb dX4_products_9 ?_
  obtain rfl := Option.some.inj hrun
  exact k_reti C0 hP hD hS () rfl rfl dX4_products_10
theorem u_X4_energyOf_1 : (Cond.fieldLink RX4 70 "ClosePacking$Lab" "near" "I") ∈ wsX4_energyOf := List.mem_of_getElem? (i := 1) (by decide +kernel)
theorem u_X4_energyOf_2 : (Cond.fieldLink RX4 77 "ClosePacking$Lab" "second" "I") ∈ wsX4_energyOf := List.mem_of_getElem? (i := 2) (by decide +kernel)
theorem u_X4_energyOf_3 : (Cond.fieldLink RX4 80 "ClosePacking$Lab" "third" "I") ∈ wsX4_energyOf := List.mem_of_getElem? (i := 3) (by decide +kernel)
theorem n_X4_energyOf_X4 : ∀ w ∈ u_ws RX4 TX4 14, w ∈ wsX4_energyOf := by decide +kernel
abbrev rm_X4_energyOf : Room := { frames := 2, cells := 0, slots := 0, locals := 42 }
theorem e_X4_energyOf : yX4_energyOf.cls = RX4 ∧ yX4_energyOf.cls ≠ "java/lang/invoke/MethodHandle" ∧ yX4_energyOf.cls ≠ "java/lang/invoke/VarHandle" ∧ (parseMethodDescriptor yX4_energyOf.desc).map (fun d => d.parameters.length) = some 2 := by decide +kernel
set_option maxHeartbeats 4000000 in
set_option maxRecDepth 100000 in
theorem c_X4_energyOf {l : Launch} {G : k_G} {h_t : Nat} {g_t_complete g_t_growth g_t_stacks g_t_names g_t_unsureCount g_t_unsureStacks g_t_unsurePlaces g_t_agreedCount g_t_agreedStacks g_t_agreedDistances g_t_agreedLayers : Value} {sz : Nat} {p1 : Int32} {p2 : Int32} {v_t_near : Int32} {v_t_second : Int32} {v_t_third : Int32} {out : Int32} (hrun : f_X4_energyOf p1 p2 v_t_near v_t_second v_t_third = some out) : k_Ci l G yX4_energyOf wsX4_energyOf rm_X4_energyOf [.ref h_t, .int p1, .int p2] [(h_t, .inr (2, [g_t_complete, .int v_t_near, .int v_t_second, .int v_t_third, g_t_growth, g_t_stacks, g_t_names, g_t_unsureCount, g_t_unsureStacks, g_t_unsurePlaces, g_t_agreedCount, g_t_agreedStacks, g_t_agreedDistances, g_t_agreedLayers]))] sz out (fun (_ : Unit) => [(h_t, .inr (2, [g_t_complete, .int v_t_near, .int v_t_second, .int v_t_third, g_t_growth, g_t_stacks, g_t_names, g_t_unsureCount, g_t_unsureStacks, g_t_unsurePlaces, g_t_agreedCount, g_t_agreedStacks, g_t_agreedDistances, g_t_agreedLayers]))]) 0 0 := by
  refine k_of (cc := cX4_energyOf) (nL := 6) (ret := some .int) (own := RX4) (nm := "energyOf") (by decide) rfl rfl rfl rfl ?_
  intro p e s m args below meth c ls hsz C0 hP hD hS hl
  have hl : lv_has ls 6 [(0, .ref h_t), (1, .int p1), (2, .int p2)] := hl
  generalize hH : s.heap = H at hP
  have hS : va_S (va_A [(h_t, .inr (2, [g_t_complete, .int v_t_near, .int v_t_second, .int v_t_third, g_t_growth, g_t_stacks, g_t_names, g_t_unsureCount, g_t_unsureStacks, g_t_unsurePlaces, g_t_agreedCount, g_t_agreedStacks, g_t_agreedDistances, g_t_agreedLayers]))] sz) s.heap H [] := by rw [← hH]; exact hS
  clear hH
  generalize va_A [(h_t, .inr (2, [g_t_complete, .int v_t_near, .int v_t_second, .int v_t_third, g_t_growth, g_t_stacks, g_t_names, g_t_unsureCount, g_t_unsureStacks, g_t_unsurePlaces, g_t_agreedCount, g_t_agreedStacks, g_t_agreedDistances, g_t_agreedLayers]))] sz = A at C0 hD hS ⊢
  have hx := C0.1
  have hb := C0.2.1
  have hts := C0.2.2.2.1
  have hown := C0.2.2.2.2.1
  have hK := C0.2.2.2.2.2.2.2.2.1.1
  have hNW := C0.2.2.2.2.2.2.2.2.1.2.1
  have hSF := C0.2.2.2.2.2.2.2.2.1.2.2
  rw [f_X4_energyOf] at hrun
  refine lv_iload_n hx hb dX4_energyOf_0 rfl (lv_at hl 1 rfl) ?_
  refine lv_iload_n hx hb dX4_energyOf_1 rfl (lv_at hl 2 rfl) ?_
  obtain ⟨t1, et1, hrun⟩ := bd_inv hrun
  refine k_calli0 C0 (k_runS (rest := []) C0 (c_X8_turned et1) (va_cwS 2 hts gX4_energyOf_X8_turned rfl rfl rfl e_X8_turned.2 ⟨Nat.le_of_ble_eq_true rfl, Nat.le_of_ble_eq_true rfl⟩) hP hD hS [] rfl (by decide) rfl hl.1 rfl (Nat.le_of_ble_eq_true rfl) dX4_energyOf_2 ⟨Nat.le_of_ble_eq_true rfl, Nat.le_of_ble_eq_true rfl⟩) hP hS (fun H locs hP hS => ?_)
  refine lv_istore_n (lv' := [(3, .int t1), (0, .ref h_t), (1, .int p1), (2, .int p2)]) hx hb dX4_energyOf_5 rfl hl (by decide) rfl (fun ls hl => ?_)
  refine lv_iload_n hx hb dX4_energyOf_6 rfl (lv_at hl 0 rfl) ?_
  refine lv_iload_n hx hb dX4_energyOf_7 rfl (lv_at hl 3 rfl) ?_
  obtain ⟨t2, et2, hrun⟩ := bd_inv hrun
  refine k_calli0 C0 (k_runS (rest := []) C0 (c_X8_turned et2) (va_cwS 2 hts gX4_energyOf_X8_turned rfl rfl rfl e_X8_turned.2 ⟨Nat.le_of_ble_eq_true rfl, Nat.le_of_ble_eq_true rfl⟩) hP hD hS [] rfl (by decide) rfl hl.1 rfl (Nat.le_of_ble_eq_true rfl) dX4_energyOf_8 ⟨Nat.le_of_ble_eq_true rfl, Nat.le_of_ble_eq_true rfl⟩) hP hS (fun H locs hP hS => ?_)
  refine lv_istore (lv' := [(4, .int t2), (3, .int t1), (0, .ref h_t), (1, .int p1), (2, .int p2)]) hx hb dX4_energyOf_11 hl (by decide) rfl (fun ls hl => ?_)
  refine lv_iload hx hb dX4_energyOf_13 (lv_at hl 0 rfl) ?_
  refine lv_iload_n hx hb dX4_energyOf_15 rfl (lv_at hl 4 rfl) ?_
  obtain ⟨t3, et3, hrun⟩ := bd_inv hrun
  refine k_calli0 C0 (k_runS (rest := []) C0 (c_X8_turned et3) (va_cwS 2 hts gX4_energyOf_X8_turned rfl rfl rfl e_X8_turned.2 ⟨Nat.le_of_ble_eq_true rfl, Nat.le_of_ble_eq_true rfl⟩) hP hD hS [] rfl (by decide) rfl hl.1 rfl (Nat.le_of_ble_eq_true rfl) dX4_energyOf_16 ⟨Nat.le_of_ble_eq_true rfl, Nat.le_of_ble_eq_true rfl⟩) hP hS (fun H locs hP hS => ?_)
  refine lv_istore (lv' := [(5, .int t3), (4, .int t2), (3, .int t1), (0, .ref h_t), (1, .int p1), (2, .int p2)]) hx hb dX4_energyOf_19 hl (by decide) rfl (fun ls hl => ?_)
  refine lv_aload_n hx hb dX4_energyOf_21 rfl (lv_at hl 3 rfl) ?_
  refine va_get (D := G.1) (ci := 2) (v := .int v_t_near) (C := RX4) (T := TX4) (N := 14) hx hb hts n_X4_energyOf_X4 hown hK hP 0 rfl rfl 1 (by decide) (hts _ u_X4_energyOf_1) (fun _ h9 => h9) rfl dX4_energyOf_22 ?_
  refine lv_ineg hx hb dX4_energyOf_25 ?_
  refine lv_iload_n hx hb dX4_energyOf_26 rfl (lv_at hl 4 rfl) ?_
  refine lv_iload_n hx hb dX4_energyOf_27 rfl (lv_at hl 2 rfl) ?_
  refine lv_iload_n hx hb dX4_energyOf_28 rfl (lv_at hl 5 rfl) ?_
  obtain ⟨t4, et4, hrun⟩ := bd_inv hrun
  refine k_calli0 C0 (k_runS (rest := [.int (-v_t_near)]) C0 (c_X4_products et4) (va_cwS 3 hts gX4_energyOf_X4_products rfl rfl rfl e_X4_products.2 ⟨Nat.le_of_ble_eq_true rfl, Nat.le_of_ble_eq_true rfl⟩) hP hD hS [] rfl (by decide) rfl hl.1 rfl (Nat.le_of_ble_eq_true rfl) dX4_energyOf_29 ⟨Nat.le_of_ble_eq_true rfl, Nat.le_of_ble_eq_true rfl⟩) hP hS (fun H locs hP hS => ?_)
  refine lv_imul hx hb dX4_energyOf_32 ?_
  refine lv_aload_n hx hb dX4_energyOf_33 rfl (lv_at hl 3 rfl) ?_
  refine va_get (D := G.1) (ci := 2) (v := .int v_t_second) (C := RX4) (T := TX4) (N := 14) hx hb hts n_X4_energyOf_X4 hown hK hP 0 rfl rfl 2 (by decide) (hts _ u_X4_energyOf_2) (fun _ h9 => h9) rfl dX4_energyOf_34 ?_
  refine lv_iload_n hx hb dX4_energyOf_37 rfl (lv_at hl 4 rfl) ?_
  refine lv_iload hx hb dX4_energyOf_38 (lv_at hl 1 rfl) ?_
  refine lv_iload_n hx hb dX4_energyOf_40 rfl (lv_at hl 5 rfl) ?_
  obtain ⟨t5, et5, hrun⟩ := bd_inv hrun
  refine k_calli0 C0 (k_runS (rest := [.int v_t_second, .int ((-v_t_near) * t4)]) C0 (c_X4_products et5) (va_cwS 3 hts gX4_energyOf_X4_products rfl rfl rfl e_X4_products.2 ⟨Nat.le_of_ble_eq_true rfl, Nat.le_of_ble_eq_true rfl⟩) hP hD hS [] rfl (by decide) rfl hl.1 rfl (Nat.le_of_ble_eq_true rfl) dX4_energyOf_41 ⟨Nat.le_of_ble_eq_true rfl, Nat.le_of_ble_eq_true rfl⟩) hP hS (fun H locs hP hS => ?_)
  refine lv_imul hx hb dX4_energyOf_44 ?_
  refine lv_isub hx hb dX4_energyOf_45 ?_
  refine lv_aload_n hx hb dX4_energyOf_46 rfl (lv_at hl 3 rfl) ?_
  refine va_get (D := G.1) (ci := 2) (v := .int v_t_third) (C := RX4) (T := TX4) (N := 14) hx hb hts n_X4_energyOf_X4 hown hK hP 0 rfl rfl 3 (by decide) (hts _ u_X4_energyOf_3) (fun _ h9 => h9) rfl dX4_energyOf_47 ?_
  refine lv_iload_n hx hb dX4_energyOf_50 rfl (lv_at hl 4 rfl) ?_
  refine lv_iload hx hb dX4_energyOf_51 (lv_at hl 0 rfl) ?_
  refine lv_iload_n hx hb dX4_energyOf_53 rfl (lv_at hl 5 rfl) ?_
  obtain ⟨t6, et6, hrun⟩ := bd_inv hrun
  refine k_calli0 C0 (k_runS (rest := [.int v_t_third, .int (((-v_t_near) * t4) - (v_t_second * t5))]) C0 (c_X4_products et6) (va_cwS 3 hts gX4_energyOf_X4_products rfl rfl rfl e_X4_products.2 ⟨Nat.le_of_ble_eq_true rfl, Nat.le_of_ble_eq_true rfl⟩) hP hD hS [] rfl (by decide) rfl hl.1 rfl (Nat.le_of_ble_eq_true rfl) dX4_energyOf_54 ⟨Nat.le_of_ble_eq_true rfl, Nat.le_of_ble_eq_true rfl⟩) hP hS (fun H locs hP hS => ?_)
  refine lv_imul hx hb dX4_energyOf_57 ?_
  refine lv_isub hx hb dX4_energyOf_58 ?_
  obtain rfl := Option.some.inj hrun
  exact k_reti C0 hP hD hS () rfl rfl dX4_energyOf_59
abbrev rm_X4_weakestStep : Room := { frames := 3, cells := 0, slots := 0, locals := 67 }
theorem e_X4_weakestStep : yX4_weakestStep.cls = RX4 ∧ yX4_weakestStep.cls ≠ "java/lang/invoke/MethodHandle" ∧ yX4_weakestStep.cls ≠ "java/lang/invoke/VarHandle" ∧ (parseMethodDescriptor yX4_weakestStep.desc).map (fun d => d.parameters.length) = some 2 := by decide +kernel
set_option maxHeartbeats 4000000 in
set_option maxRecDepth 100000 in
theorem t_X4_weakestStep_42 {l : Launch} {G : k_G} {p : Program} {e : Env} {s : State} {m : MethodId} {args : Array Value} {below : List Frame} {meth : Method} {c : Code} {A : Nat → Prop} {h_t : Nat} {g_t_complete g_t_growth g_t_stacks g_t_names g_t_unsureCount g_t_unsureStacks g_t_unsurePlaces g_t_agreedCount g_t_agreedStacks g_t_agreedDistances g_t_agreedLayers : Value} {out : Int32} (C0 : k_C G p s m args meth c A cX4_weakestStep RX4 wsX4_weakestStep 5 (some .int) "weakestStep") (k5 : Int32 → Int32 → Int32 → Int32 → Int32 → Int32 → Int32 → Option (Int32)) (hk5 : ∀ (x1 : Int32) (x2 : Int32) (x3 : Int32) (x4 : Int32) (v_t_near : Int32) (v_t_second : Int32) (v_t_third : Int32) (H : Heap) (locs : List Loc) (ls : Array Slot), va_P G.1 vwCl [(h_t, .inr (2, [g_t_complete, .int v_t_near, .int v_t_second, .int v_t_third, g_t_growth, g_t_stacks, g_t_names, g_t_unsureCount, g_t_unsureStacks, g_t_unsurePlaces, g_t_agreedCount, g_t_agreedStacks, g_t_agreedDistances, g_t_agreedLayers]))] H → va_D A [(h_t, .inr (2, [g_t_complete, .int v_t_near, .int v_t_second, .int v_t_third, g_t_growth, g_t_stacks, g_t_names, g_t_unsureCount, g_t_unsureStacks, g_t_unsurePlaces, g_t_agreedCount, g_t_agreedStacks, g_t_agreedDistances, g_t_agreedLayers]))] → va_S A s.heap H locs → lv_has ls 5 [(0, .ref h_t), (1, .int x1), (2, .int x2), (3, .int x3), (4, .int x4)] → k5 x1 x2 x3 x4 v_t_near v_t_second v_t_third = some out → W p l e rm_X4_weakestStep s m args below meth c H locs 0 0 (MQ below (k_Qi G A out (fun (_ : Unit) => [(h_t, .inr (2, [g_t_complete, .int v_t_near, .int v_t_second, .int v_t_third, g_t_growth, g_t_stacks, g_t_names, g_t_unsureCount, g_t_unsureStacks, g_t_unsurePlaces, g_t_agreedCount, g_t_agreedStacks, g_t_agreedDistances, g_t_agreedLayers]))])) args s 0 0 A) (F0 m 5 ls [])) : ∀ (x1 : Int32) (x2 : Int32) (x3 : Int32) (x4 : Int32) (v_t_near : Int32) (v_t_second : Int32) (v_t_third : Int32) (H : Heap) (locs : List Loc) (ls : Array Slot), va_P G.1 vwCl [(h_t, .inr (2, [g_t_complete, .int v_t_near, .int v_t_second, .int v_t_third, g_t_growth, g_t_stacks, g_t_names, g_t_unsureCount, g_t_unsureStacks, g_t_unsurePlaces, g_t_agreedCount, g_t_agreedStacks, g_t_agreedDistances, g_t_agreedLayers]))] H → va_D A [(h_t, .inr (2, [g_t_complete, .int v_t_near, .int v_t_second, .int v_t_third, g_t_growth, g_t_stacks, g_t_names, g_t_unsureCount, g_t_unsureStacks, g_t_unsurePlaces, g_t_agreedCount, g_t_agreedStacks, g_t_agreedDistances, g_t_agreedLayers]))] → va_S A s.heap H locs → lv_has ls 5 [(0, .ref h_t), (1, .int x1), (2, .int x2), (3, .int x3), (4, .int x4)] → f_X4_weakestStep_42 k5 x1 x2 x3 x4 v_t_near v_t_second v_t_third = some out → W p l e rm_X4_weakestStep s m args below meth c H locs 0 0 (MQ below (k_Qi G A out (fun (_ : Unit) => [(h_t, .inr (2, [g_t_complete, .int v_t_near, .int v_t_second, .int v_t_third, g_t_growth, g_t_stacks, g_t_names, g_t_unsureCount, g_t_unsureStacks, g_t_unsurePlaces, g_t_agreedCount, g_t_agreedStacks, g_t_agreedDistances, g_t_agreedLayers]))])) args s 0 0 A) (F0 m 42 ls []) := by
  have hx := C0.1
  have hb := C0.2.1
  have hts := C0.2.2.2.1
  have hown := C0.2.2.2.2.1
  have hK := C0.2.2.2.2.2.2.2.2.1.1
  have hNW := C0.2.2.2.2.2.2.2.2.1.2.1
  have hSF := C0.2.2.2.2.2.2.2.2.1.2.2
  intro x1 x2 x3 x4 v_t_near v_t_second v_t_third H locs ls hP hD hS hl hrun
  rw [f_X4_weakestStep_42] at hrun
  refine lv_iinc (v := x4 + 1) (lv' := [(4, .int (x4 + 1)), (0, .ref h_t), (1, .int x1), (2, .int x2), (3, .int x3)]) hx hb dX4_weakestStep_42 hl (k := 4) rfl rfl (by decide) rfl (fun ls hl => ?_)
  refine lv_goto (tgt := 5) hx hb dX4_weakestStep_45 (by decide) ?_
  exact hk5 x1 x2 x3 (x4 + 1) v_t_near v_t_second v_t_third _ _ _ hP hD hS (lv_sub hl [1, 2, 3, 4, 0] rfl) hrun
set_option maxHeartbeats 4000000 in
set_option maxRecDepth 100000 in
theorem t_X4_weakestStep_5 {l : Launch} {G : k_G} {p : Program} {e : Env} {s : State} {m : MethodId} {args : Array Value} {below : List Frame} {meth : Method} {c : Code} {A : Nat → Prop} {h_t : Nat} {g_t_complete g_t_growth g_t_stacks g_t_names g_t_unsureCount g_t_unsureStacks g_t_unsurePlaces g_t_agreedCount g_t_agreedStacks g_t_agreedDistances g_t_agreedLayers : Value} {out : Int32} (C0 : k_C G p s m args meth c A cX4_weakestStep RX4 wsX4_weakestStep 5 (some .int) "weakestStep") : ∀ (n : Nat) (x1 : Int32) (x2 : Int32) (x3 : Int32) (x4 : Int32) (v_t_near : Int32) (v_t_second : Int32) (v_t_third : Int32) (H : Heap) (locs : List Loc) (ls : Array Slot), va_P G.1 vwCl [(h_t, .inr (2, [g_t_complete, .int v_t_near, .int v_t_second, .int v_t_third, g_t_growth, g_t_stacks, g_t_names, g_t_unsureCount, g_t_unsureStacks, g_t_unsurePlaces, g_t_agreedCount, g_t_agreedStacks, g_t_agreedDistances, g_t_agreedLayers]))] H → va_D A [(h_t, .inr (2, [g_t_complete, .int v_t_near, .int v_t_second, .int v_t_third, g_t_growth, g_t_stacks, g_t_names, g_t_unsureCount, g_t_unsureStacks, g_t_unsurePlaces, g_t_agreedCount, g_t_agreedStacks, g_t_agreedDistances, g_t_agreedLayers]))] → va_S A s.heap H locs → lv_has ls 5 [(0, .ref h_t), (1, .int x1), (2, .int x2), (3, .int x3), (4, .int x4)] → f_X4_weakestStep_5 n x1 x2 x3 x4 v_t_near v_t_second v_t_third = some out → W p l e rm_X4_weakestStep s m args below meth c H locs 0 0 (MQ below (k_Qi G A out (fun (_ : Unit) => [(h_t, .inr (2, [g_t_complete, .int v_t_near, .int v_t_second, .int v_t_third, g_t_growth, g_t_stacks, g_t_names, g_t_unsureCount, g_t_unsureStacks, g_t_unsurePlaces, g_t_agreedCount, g_t_agreedStacks, g_t_agreedDistances, g_t_agreedLayers]))])) args s 0 0 A) (F0 m 5 ls []) := by
  have hx := C0.1
  have hb := C0.2.1
  have hts := C0.2.2.2.1
  have hown := C0.2.2.2.2.1
  have hK := C0.2.2.2.2.2.2.2.2.1.1
  have hNW := C0.2.2.2.2.2.2.2.2.1.2.1
  have hSF := C0.2.2.2.2.2.2.2.2.1.2.2
  intro n
  induction n with
  | zero =>
    intro x1 x2 x3 x4 v_t_near v_t_second v_t_third H locs ls hP hD hS hl hrun
    rw [f_X4_weakestStep_5] at hrun
    cases hrun
  | succ n ih =>
    intro x1 x2 x3 x4 v_t_near v_t_second v_t_third H locs ls hP hD hS hl hrun
    rw [f_X4_weakestStep_5] at hrun
    refine lv_iload hx hb dX4_weakestStep_5 (lv_at hl 4 rfl) ?_
    refine lv_iload_n hx hb dX4_weakestStep_7 rfl (lv_at hl 2 rfl) ?_
    refine lv_icmp_ge (tgt := 48) hx hb dX4_weakestStep_8 (by decide) (fun q1 => ?_) (fun q1 => ?_)
    · replace hrun := if_t q1 hrun
      refine lv_iload_n hx hb dX4_weakestStep_48 rfl (lv_at hl 3 rfl) ?_
      obtain rfl := Option.some.inj hrun
      exact k_reti C0 hP hD hS () rfl rfl dX4_weakestStep_49
    · replace hrun := if_f q1 hrun
      refine lv_aload_n hx hb dX4_weakestStep_11 rfl (lv_at hl 0 rfl) ?_
      refine lv_iload_n hx hb dX4_weakestStep_12 rfl (lv_at hl 1 rfl) ?_
      refine lv_iload_n hx hb dX4_weakestStep_13 rfl (lv_at hl 2 rfl) ?_
      refine lv_iload hx hb dX4_weakestStep_14 (lv_at hl 4 rfl) ?_
      obtain ⟨t2, et2, hrun⟩ := bd_inv hrun
      refine k_calli0 C0 (k_runS (rest := [.int x1, .ref h_t]) C0 (c_X8_bit et2) (va_cwS 2 hts gX4_weakestStep_X8_bit rfl rfl rfl e_X8_bit.2 ⟨Nat.le_of_ble_eq_true rfl, Nat.le_of_ble_eq_true rfl⟩) hP hD hS [] rfl (by decide) rfl hl.1 rfl (Nat.le_of_ble_eq_true rfl) dX4_weakestStep_16 ⟨Nat.le_of_ble_eq_true rfl, Nat.le_of_ble_eq_true rfl⟩) hP hS (fun H locs hP hS => ?_)
      refine lv_ixor hx hb dX4_weakestStep_19 ?_
      refine lv_iload_n hx hb dX4_weakestStep_20 rfl (lv_at hl 2 rfl) ?_
      obtain ⟨t3, et3, hrun⟩ := bd_inv hrun
      refine k_calli (w2 := fun (_ : Unit) => [(h_t, .inr (2, [g_t_complete, .int v_t_near, .int v_t_second, .int v_t_third, g_t_growth, g_t_stacks, g_t_names, g_t_unsureCount, g_t_unsureStacks, g_t_unsurePlaces, g_t_agreedCount, g_t_agreedStacks, g_t_agreedDistances, g_t_agreedLayers]))]) C0 (k_runV (rest := []) C0 (c_X4_energyOf et3) (cwV 2 hts gX4_weakestStep_X4_energyOf rfl rfl rfl e_X4_energyOf ⟨Nat.le_of_ble_eq_true rfl, Nat.le_of_ble_eq_true rfl⟩) hP hD hS [0] rfl (by decide) 0 (qc := (RX4, TX4, 14)) rfl rfl rfl rfl hl.1 rfl (Nat.le_of_ble_eq_true rfl) dX4_weakestStep_21 ⟨Nat.le_of_ble_eq_true rfl, Nat.le_of_ble_eq_true rfl⟩) hP hD hS [0] [] rfl rfl (by decide) (by decide) [0] (by decide) (fun _ => rfl) (fun _ H locs hP hD hS => ?_)
      have hP : va_P G.1 vwCl [(h_t, .inr (2, [g_t_complete, .int v_t_near, .int v_t_second, .int v_t_third, g_t_growth, g_t_stacks, g_t_names, g_t_unsureCount, g_t_unsureStacks, g_t_unsurePlaces, g_t_agreedCount, g_t_agreedStacks, g_t_agreedDistances, g_t_agreedLayers]))] H := hP
      have hD : va_D A [(h_t, .inr (2, [g_t_complete, .int v_t_near, .int v_t_second, .int v_t_third, g_t_growth, g_t_stacks, g_t_names, g_t_unsureCount, g_t_unsureStacks, g_t_unsurePlaces, g_t_agreedCount, g_t_agreedStacks, g_t_agreedDistances, g_t_agreedLayers]))] := hD
      refine lv_aload_n hx hb dX4_weakestStep_24 rfl (lv_at hl 0 rfl) ?_
      refine lv_iload_n hx hb dX4_weakestStep_25 rfl (lv_at hl 1 rfl) ?_
      refine lv_iload_n hx hb dX4_weakestStep_26 rfl (lv_at hl 2 rfl) ?_
      refine lv_iload_n hx hb dX4_weakestStep_27 rfl (lv_at hl 3 rfl) ?_
      obtain ⟨t4, et4, hrun⟩ := bd_inv hrun
      refine k_calli0 C0 (k_runS (rest := [.int x1, .ref h_t, .int t3]) C0 (c_X8_bit et4) (va_cwS 2 hts gX4_weakestStep_X8_bit rfl rfl rfl e_X8_bit.2 ⟨Nat.le_of_ble_eq_true rfl, Nat.le_of_ble_eq_true rfl⟩) hP hD hS [] rfl (by decide) rfl hl.1 rfl (Nat.le_of_ble_eq_true rfl) dX4_weakestStep_28 ⟨Nat.le_of_ble_eq_true rfl, Nat.le_of_ble_eq_true rfl⟩) hP hS (fun H locs hP hS => ?_)
      refine lv_ixor hx hb dX4_weakestStep_31 ?_
      refine lv_iload_n hx hb dX4_weakestStep_32 rfl (lv_at hl 2 rfl) ?_
      obtain ⟨t5, et5, hrun⟩ := bd_inv hrun
      refine k_calli (w2 := fun (_ : Unit) => [(h_t, .inr (2, [g_t_complete, .int v_t_near, .int v_t_second, .int v_t_third, g_t_growth, g_t_stacks, g_t_names, g_t_unsureCount, g_t_unsureStacks, g_t_unsurePlaces, g_t_agreedCount, g_t_agreedStacks, g_t_agreedDistances, g_t_agreedLayers]))]) C0 (k_runV (rest := [.int t3]) C0 (c_X4_energyOf et5) (cwV 2 hts gX4_weakestStep_X4_energyOf rfl rfl rfl e_X4_energyOf ⟨Nat.le_of_ble_eq_true rfl, Nat.le_of_ble_eq_true rfl⟩) hP hD hS [0] rfl (by decide) 0 (qc := (RX4, TX4, 14)) rfl rfl rfl rfl hl.1 rfl (Nat.le_of_ble_eq_true rfl) dX4_weakestStep_33 ⟨Nat.le_of_ble_eq_true rfl, Nat.le_of_ble_eq_true rfl⟩) hP hD hS [0] [] rfl rfl (by decide) (by decide) [0] (by decide) (fun _ => rfl) (fun _ H locs hP hD hS => ?_)
      have hP : va_P G.1 vwCl [(h_t, .inr (2, [g_t_complete, .int v_t_near, .int v_t_second, .int v_t_third, g_t_growth, g_t_stacks, g_t_names, g_t_unsureCount, g_t_unsureStacks, g_t_unsurePlaces, g_t_agreedCount, g_t_agreedStacks, g_t_agreedDistances, g_t_agreedLayers]))] H := hP
      have hD : va_D A [(h_t, .inr (2, [g_t_complete, .int v_t_near, .int v_t_second, .int v_t_third, g_t_growth, g_t_stacks, g_t_names, g_t_unsureCount, g_t_unsureStacks, g_t_unsurePlaces, g_t_agreedCount, g_t_agreedStacks, g_t_agreedDistances, g_t_agreedLayers]))] := hD
      refine lv_icmp_ge (tgt := 42) hx hb dX4_weakestStep_36 (by decide) (fun q6 => ?_) (fun q6 => ?_)
      · replace hrun := if_t q6 hrun
        exact t_X4_weakestStep_42 C0 (fun x1 x2 x3 x4 v_t_near v_t_second v_t_third => f_X4_weakestStep_5 n x1 x2 x3 x4 v_t_near v_t_second v_t_third) ih x1 x2 x3 x4 v_t_near v_t_second v_t_third _ _ _ hP hD hS hl hrun
      · replace hrun := if_f q6 hrun
        refine lv_iload hx hb dX4_weakestStep_39 (lv_at hl 4 rfl) ?_
        refine lv_istore_n (lv' := [(3, .int x4), (0, .ref h_t), (1, .int x1), (2, .int x2), (4, .int x4)]) hx hb dX4_weakestStep_41 rfl hl (by decide) rfl (fun ls hl => ?_)
        exact t_X4_weakestStep_42 C0 (fun x1 x2 x3 x4 v_t_near v_t_second v_t_third => f_X4_weakestStep_5 n x1 x2 x3 x4 v_t_near v_t_second v_t_third) ih x1 x2 x4 x4 v_t_near v_t_second v_t_third _ _ _ hP hD hS (lv_sub hl [1, 2, 3, 0, 4] rfl) hrun
set_option maxHeartbeats 4000000 in
set_option maxRecDepth 100000 in
theorem c_X4_weakestStep {l : Launch} {G : k_G} {h_t : Nat} {g_t_complete g_t_growth g_t_stacks g_t_names g_t_unsureCount g_t_unsureStacks g_t_unsurePlaces g_t_agreedCount g_t_agreedStacks g_t_agreedDistances g_t_agreedLayers : Value} {sz : Nat} {p1 : Int32} {p2 : Int32} {v_t_near : Int32} {v_t_second : Int32} {v_t_third : Int32} {out : Int32} (hrun : f_X4_weakestStep p1 p2 v_t_near v_t_second v_t_third = some out) : k_Ci l G yX4_weakestStep wsX4_weakestStep rm_X4_weakestStep [.ref h_t, .int p1, .int p2] [(h_t, .inr (2, [g_t_complete, .int v_t_near, .int v_t_second, .int v_t_third, g_t_growth, g_t_stacks, g_t_names, g_t_unsureCount, g_t_unsureStacks, g_t_unsurePlaces, g_t_agreedCount, g_t_agreedStacks, g_t_agreedDistances, g_t_agreedLayers]))] sz out (fun (_ : Unit) => [(h_t, .inr (2, [g_t_complete, .int v_t_near, .int v_t_second, .int v_t_third, g_t_growth, g_t_stacks, g_t_names, g_t_unsureCount, g_t_unsureStacks, g_t_unsurePlaces, g_t_agreedCount, g_t_agreedStacks, g_t_agreedDistances, g_t_agreedLayers]))]) 0 0 := by
  refine k_of (cc := cX4_weakestStep) (nL := 5) (ret := some .int) (own := RX4) (nm := "weakestStep") (by decide) rfl rfl rfl rfl ?_
  intro p e s m args below meth c ls hsz C0 hP hD hS hl
  have hl : lv_has ls 5 [(0, .ref h_t), (1, .int p1), (2, .int p2)] := hl
  generalize hH : s.heap = H at hP
  have hS : va_S (va_A [(h_t, .inr (2, [g_t_complete, .int v_t_near, .int v_t_second, .int v_t_third, g_t_growth, g_t_stacks, g_t_names, g_t_unsureCount, g_t_unsureStacks, g_t_unsurePlaces, g_t_agreedCount, g_t_agreedStacks, g_t_agreedDistances, g_t_agreedLayers]))] sz) s.heap H [] := by rw [← hH]; exact hS
  clear hH
  generalize va_A [(h_t, .inr (2, [g_t_complete, .int v_t_near, .int v_t_second, .int v_t_third, g_t_growth, g_t_stacks, g_t_names, g_t_unsureCount, g_t_unsureStacks, g_t_unsurePlaces, g_t_agreedCount, g_t_agreedStacks, g_t_agreedDistances, g_t_agreedLayers]))] sz = A at C0 hD hS ⊢
  have hx := C0.1
  have hb := C0.2.1
  have hts := C0.2.2.2.1
  have hown := C0.2.2.2.2.1
  have hK := C0.2.2.2.2.2.2.2.2.1.1
  have hNW := C0.2.2.2.2.2.2.2.2.1.2.1
  have hSF := C0.2.2.2.2.2.2.2.2.1.2.2
  rw [f_X4_weakestStep] at hrun
  refine lv_iconst (v := 0) hx hb dX4_weakestStep_0 (by decide) ?_
  refine lv_istore_n (lv' := [(3, .int (0 : Int32)), (0, .ref h_t), (1, .int p1), (2, .int p2)]) hx hb dX4_weakestStep_1 rfl hl (by decide) rfl (fun ls hl => ?_)
  refine lv_iconst (v := 1) hx hb dX4_weakestStep_2 (by decide) ?_
  refine lv_istore (lv' := [(4, .int (1 : Int32)), (3, .int (0 : Int32)), (0, .ref h_t), (1, .int p1), (2, .int p2)]) hx hb dX4_weakestStep_3 hl (by decide) rfl (fun ls hl => ?_)
  exact t_X4_weakestStep_5 C0 kFU p1 p2 (0 : Int32) (1 : Int32) v_t_near v_t_second v_t_third _ _ _ hP hD hS (lv_sub hl [2, 3, 4, 1, 0] rfl) hrun
theorem u_X5_init_1 : (Cond.methodLink RX5 3 objectInit) ∈ wsX5_init := List.mem_of_getElem? (i := 1) (by decide +kernel)
theorem u_X5_init_2 : (Cond.instanceMethod objectInit) ∈ wsX5_init := List.mem_of_getElem? (i := 2) (by decide +kernel)
theorem u_X5_init_3 : (Cond.code objectInit ⟨#[0xb1]⟩ 1 none) ∈ wsX5_init := List.mem_of_getElem? (i := 3) (by decide +kernel)
theorem u_X5_init_4 : (Cond.arrayClass .int) ∈ wsX5_init := List.mem_of_getElem? (i := 4) (by decide +kernel)
theorem u_X5_init_5 : (Cond.fieldLink RX5 11 "ClosePacking$Landscape" "energies" "[I") ∈ wsX5_init := List.mem_of_getElem? (i := 5) (by decide +kernel)
theorem u_X5_init_6 : (Cond.fieldLink RX5 15 "ClosePacking$Landscape" "queue" "[I") ∈ wsX5_init := List.mem_of_getElem? (i := 6) (by decide +kernel)
theorem u_X5_init_7 : (Cond.arrayClass .boolean) ∈ wsX5_init := List.mem_of_getElem? (i := 7) (by decide +kernel)
theorem u_X5_init_8 : (Cond.fieldLink RX5 18 "ClosePacking$Landscape" "reached" "[Z") ∈ wsX5_init := List.mem_of_getElem? (i := 8) (by decide +kernel)
theorem n_X5_init_X5 : ∀ w ∈ u_ws RX5 TX5 9, w ∈ wsX5_init := by decide +kernel
abbrev rm_X5_init : Room := { frames := 1, cells := 3, slots := 12288, locals := 20 }
theorem e_X5_init : yX5_init.cls = RX5 ∧ yX5_init.cls ≠ "java/lang/invoke/MethodHandle" ∧ yX5_init.cls ≠ "java/lang/invoke/VarHandle" ∧ (parseMethodDescriptor yX5_init.desc).map (fun d => d.parameters.length) = some 0 := by decide +kernel
set_option maxHeartbeats 4000000 in
set_option maxRecDepth 100000 in
theorem c_X5_init {l : Launch} {G : k_G} {h_t : Nat} {g_t_energies g_t_queue g_t_reached g_t_steps g_t_rows g_t_queued g_t_leastAbove g_t_rowAtRest g_t_slipsToRest : Value} {sz : Nat} {out : Unit} (hrun : f_X5_init  = some out) : k_Cv l G yX5_init wsX5_init rm_X5_init [.ref h_t] [(h_t, .inr (3, [g_t_energies, g_t_queue, g_t_reached, g_t_steps, g_t_rows, g_t_queued, g_t_leastAbove, g_t_rowAtRest, g_t_slipsToRest]))] sz (fun (u : Nat × Nat × Nat) => [(h_t, .inr (3, [.ref u.1, .ref u.2.1, .ref u.2.2, g_t_steps, g_t_rows, g_t_queued, g_t_leastAbove, g_t_rowAtRest, g_t_slipsToRest])), (u.1, .inl (k_cI G, 4096, .inl (fun _ => 0))), (u.2.1, .inl (k_cI G, 4096, .inl (fun _ => 0))), (u.2.2, .inl (k_cZ G, 4096, .inl (fun _ => 0)))]) 3 12288 := by
  refine k_of (cc := cX5_init) (nL := 1) (ret := none) (own := RX5) (nm := "<init>") (by decide) rfl rfl rfl rfl ?_
  intro p e s m args below meth c ls hsz C0 hP hD hS hl
  have hl : lv_has ls 1 [(0, .ref h_t)] := hl
  generalize hH : s.heap = H at hP
  have hS : va_S (va_A [(h_t, .inr (3, [g_t_energies, g_t_queue, g_t_reached, g_t_steps, g_t_rows, g_t_queued, g_t_leastAbove, g_t_rowAtRest, g_t_slipsToRest]))] sz) s.heap H [] := by rw [← hH]; exact hS
  clear hH
  generalize va_A [(h_t, .inr (3, [g_t_energies, g_t_queue, g_t_reached, g_t_steps, g_t_rows, g_t_queued, g_t_leastAbove, g_t_rowAtRest, g_t_slipsToRest]))] sz = A at C0 hD hS ⊢
  have hx := C0.1
  have hb := C0.2.1
  have hts := C0.2.2.2.1
  have hown := C0.2.2.2.2.1
  have hK := C0.2.2.2.2.2.2.2.2.1.1
  have hNW := C0.2.2.2.2.2.2.2.2.1.2.1
  have hSF := C0.2.2.2.2.2.2.2.2.1.2.2
  rw [f_X5_init] at hrun
  refine lv_aload_n hx hb dX5_init_0 rfl (lv_at hl 0 rfl) ?_
  refine W.objInit hx hb hown (hts _ u_X5_init_1) (hts _ u_X5_init_2) (hts _ u_X5_init_3) rfl (by rw [C0.2.2.2.2.2.2.1]; exact hl.1) rfl dX5_init_1 (Nat.le_of_ble_eq_true rfl) (Nat.le_of_ble_eq_true rfl) ?_
  refine W.eq (g2 := F0 m 4 ls []) rfl ?_
  refine lv_aload_n hx hb dX5_init_4 rfl (lv_at hl 0 rfl) ?_
  refine lv_sipush (v := 4096) hx hb dX5_init_5 (by decide) ?_
  refine k_newa (atype := .int) (ty := .int) (a0 := (4096, .inl (fun _ => 0))) C0 (hts _ u_X5_init_4) rfl 1 rfl (fun _ h9 => h9) hP hD hS (fun _ => rfl) (by decide) (by decide) (Nat.le_of_ble_eq_true rfl) (Nat.le_of_ble_eq_true rfl) (Nat.le_of_ble_eq_true rfl) dX5_init_8 (fun h_n8 H hP hD hS => ?_)
  have hP : va_P G.1 vwCl [(h_t, .inr (3, [g_t_energies, g_t_queue, g_t_reached, g_t_steps, g_t_rows, g_t_queued, g_t_leastAbove, g_t_rowAtRest, g_t_slipsToRest])), (h_n8, .inl (k_cI G, 4096, .inl (fun _ => 0)))] H := hP
  have hD : va_D A [(h_t, .inr (3, [g_t_energies, g_t_queue, g_t_reached, g_t_steps, g_t_rows, g_t_queued, g_t_leastAbove, g_t_rowAtRest, g_t_slipsToRest])), (h_n8, .inl (k_cI G, 4096, .inl (fun _ => 0)))] := hD
  refine W.widen (k := 1) (n := 4096) (Nat.le_of_ble_eq_true rfl) (Nat.le_of_ble_eq_true rfl) ?_
  refine va_putF (D := G.1) (ci := 3) (v := .ref h_n8) (ty := (tyX5 0)) (C := RX5) (T := TX5) (N := 9) hx hb hts n_X5_init_X5 tyX5 tyX5_ok nmX5 hown hK hP hD hS 0 rfl rfl 0 (by decide) (hts _ u_X5_init_5) (fun _ h9 => h9) rfl C0.2.2.2.2.2.2.2.2.2 rfl (by decide +kernel) rfl rfl (Nat.le_of_ble_eq_true rfl) dX5_init_10 (fun H locs hP hD hS => ?_)
  have hP : va_P G.1 vwCl [(h_t, .inr (3, [.ref h_n8, g_t_queue, g_t_reached, g_t_steps, g_t_rows, g_t_queued, g_t_leastAbove, g_t_rowAtRest, g_t_slipsToRest])), (h_n8, .inl (k_cI G, 4096, .inl (fun _ => 0)))] H := hP
  have hD : va_D A [(h_t, .inr (3, [.ref h_n8, g_t_queue, g_t_reached, g_t_steps, g_t_rows, g_t_queued, g_t_leastAbove, g_t_rowAtRest, g_t_slipsToRest])), (h_n8, .inl (k_cI G, 4096, .inl (fun _ => 0)))] := hD
  refine lv_aload_n hx hb dX5_init_13 rfl (lv_at hl 0 rfl) ?_
  refine lv_sipush (v := 4096) hx hb dX5_init_14 (by decide) ?_
  refine k_newa (atype := .int) (ty := .int) (a0 := (4096, .inl (fun _ => 0))) C0 (hts _ u_X5_init_4) rfl 1 rfl (fun _ h9 => h9) hP hD hS (fun _ => rfl) (by decide) (by decide) (Nat.le_of_ble_eq_true rfl) (Nat.le_of_ble_eq_true rfl) (Nat.le_of_ble_eq_true rfl) dX5_init_17 (fun h_n17 H hP hD hS => ?_)
  have hP : va_P G.1 vwCl [(h_t, .inr (3, [.ref h_n8, g_t_queue, g_t_reached, g_t_steps, g_t_rows, g_t_queued, g_t_leastAbove, g_t_rowAtRest, g_t_slipsToRest])), (h_n8, .inl (k_cI G, 4096, .inl (fun _ => 0))), (h_n17, .inl (k_cI G, 4096, .inl (fun _ => 0)))] H := hP
  have hD : va_D A [(h_t, .inr (3, [.ref h_n8, g_t_queue, g_t_reached, g_t_steps, g_t_rows, g_t_queued, g_t_leastAbove, g_t_rowAtRest, g_t_slipsToRest])), (h_n8, .inl (k_cI G, 4096, .inl (fun _ => 0))), (h_n17, .inl (k_cI G, 4096, .inl (fun _ => 0)))] := hD
  refine W.widen (k := 2) (n := 8192) (Nat.le_of_ble_eq_true rfl) (Nat.le_of_ble_eq_true rfl) ?_
  refine va_putF (D := G.1) (ci := 3) (v := .ref h_n17) (ty := (tyX5 1)) (C := RX5) (T := TX5) (N := 9) hx hb hts n_X5_init_X5 tyX5 tyX5_ok nmX5 hown hK hP hD hS 0 rfl rfl 1 (by decide) (hts _ u_X5_init_6) (fun _ h9 => h9) rfl C0.2.2.2.2.2.2.2.2.2 rfl (by decide +kernel) rfl rfl (Nat.le_of_ble_eq_true rfl) dX5_init_19 (fun H locs hP hD hS => ?_)
  have hP : va_P G.1 vwCl [(h_t, .inr (3, [.ref h_n8, .ref h_n17, g_t_reached, g_t_steps, g_t_rows, g_t_queued, g_t_leastAbove, g_t_rowAtRest, g_t_slipsToRest])), (h_n8, .inl (k_cI G, 4096, .inl (fun _ => 0))), (h_n17, .inl (k_cI G, 4096, .inl (fun _ => 0)))] H := hP
  have hD : va_D A [(h_t, .inr (3, [.ref h_n8, .ref h_n17, g_t_reached, g_t_steps, g_t_rows, g_t_queued, g_t_leastAbove, g_t_rowAtRest, g_t_slipsToRest])), (h_n8, .inl (k_cI G, 4096, .inl (fun _ => 0))), (h_n17, .inl (k_cI G, 4096, .inl (fun _ => 0)))] := hD
  refine lv_aload_n hx hb dX5_init_22 rfl (lv_at hl 0 rfl) ?_
  refine lv_sipush (v := 4096) hx hb dX5_init_23 (by decide) ?_
  refine k_newa (atype := .boolean) (ty := .boolean) (a0 := (4096, .inl (fun _ => 0))) C0 (hts _ u_X5_init_7) rfl 3 rfl (fun _ h9 => h9) hP hD hS (fun _ => rfl) (by decide) (by decide) (Nat.le_of_ble_eq_true rfl) (Nat.le_of_ble_eq_true rfl) (Nat.le_of_ble_eq_true rfl) dX5_init_26 (fun h_n26 H hP hD hS => ?_)
  have hP : va_P G.1 vwCl [(h_t, .inr (3, [.ref h_n8, .ref h_n17, g_t_reached, g_t_steps, g_t_rows, g_t_queued, g_t_leastAbove, g_t_rowAtRest, g_t_slipsToRest])), (h_n8, .inl (k_cI G, 4096, .inl (fun _ => 0))), (h_n17, .inl (k_cI G, 4096, .inl (fun _ => 0))), (h_n26, .inl (k_cZ G, 4096, .inl (fun _ => 0)))] H := hP
  have hD : va_D A [(h_t, .inr (3, [.ref h_n8, .ref h_n17, g_t_reached, g_t_steps, g_t_rows, g_t_queued, g_t_leastAbove, g_t_rowAtRest, g_t_slipsToRest])), (h_n8, .inl (k_cI G, 4096, .inl (fun _ => 0))), (h_n17, .inl (k_cI G, 4096, .inl (fun _ => 0))), (h_n26, .inl (k_cZ G, 4096, .inl (fun _ => 0)))] := hD
  refine W.widen (k := 3) (n := 12288) (Nat.le_of_ble_eq_true rfl) (Nat.le_of_ble_eq_true rfl) ?_
  refine va_putF (D := G.1) (ci := 3) (v := .ref h_n26) (ty := (tyX5 2)) (C := RX5) (T := TX5) (N := 9) hx hb hts n_X5_init_X5 tyX5 tyX5_ok nmX5 hown hK hP hD hS 0 rfl rfl 2 (by decide) (hts _ u_X5_init_8) (fun _ h9 => h9) rfl C0.2.2.2.2.2.2.2.2.2 rfl (by decide +kernel) rfl rfl (Nat.le_of_ble_eq_true rfl) dX5_init_28 (fun H locs hP hD hS => ?_)
  have hP : va_P G.1 vwCl [(h_t, .inr (3, [.ref h_n8, .ref h_n17, .ref h_n26, g_t_steps, g_t_rows, g_t_queued, g_t_leastAbove, g_t_rowAtRest, g_t_slipsToRest])), (h_n8, .inl (k_cI G, 4096, .inl (fun _ => 0))), (h_n17, .inl (k_cI G, 4096, .inl (fun _ => 0))), (h_n26, .inl (k_cZ G, 4096, .inl (fun _ => 0)))] H := hP
  have hD : va_D A [(h_t, .inr (3, [.ref h_n8, .ref h_n17, .ref h_n26, g_t_steps, g_t_rows, g_t_queued, g_t_leastAbove, g_t_rowAtRest, g_t_slipsToRest])), (h_n8, .inl (k_cI G, 4096, .inl (fun _ => 0))), (h_n17, .inl (k_cI G, 4096, .inl (fun _ => 0))), (h_n26, .inl (k_cZ G, 4096, .inl (fun _ => 0)))] := hD
  obtain rfl := Option.some.inj hrun
  exact k_retv C0 hP hD hS (h_n8, h_n17, h_n26) rfl dX5_init_31
theorem u_X5_survey_1 : (Cond.fieldLink RX5 22 "ClosePacking$Landscape" "steps" "I") ∈ wsX5_survey := List.mem_of_getElem? (i := 1) (by decide +kernel)
theorem u_X5_survey_2 : (Cond.fieldLink RX5 26 "ClosePacking$Landscape" "rows" "I") ∈ wsX5_survey := List.mem_of_getElem? (i := 2) (by decide +kernel)
theorem u_X5_survey_3 : (Cond.fieldLink RX5 11 "ClosePacking$Landscape" "energies" "[I") ∈ wsX5_survey := List.mem_of_getElem? (i := 3) (by decide +kernel)
theorem u_X5_survey_26 : (Cond.static yX11_set) ∈ wsX5_survey := List.mem_of_getElem? (i := 26) (by decide +kernel)
theorem u_X5_survey_27 : (Cond.initialized RX11) ∈ wsX5_survey := List.mem_of_getElem? (i := 27) (by decide +kernel)
theorem n_X5_survey_X5 : ∀ w ∈ u_ws RX5 TX5 9, w ∈ wsX5_survey := by decide +kernel
theorem nw_X5_survey_15 : k_nest[15]? = some (.methodLinkNest RX5 35 yX11_set "ClosePacking") := rfl
abbrev rm_X5_survey : Room := { frames := 3, cells := 0, slots := 0, locals := 67 }
theorem e_X5_survey : yX5_survey.cls = RX5 ∧ yX5_survey.cls ≠ "java/lang/invoke/MethodHandle" ∧ yX5_survey.cls ≠ "java/lang/invoke/VarHandle" ∧ (parseMethodDescriptor yX5_survey.desc).map (fun d => d.parameters.length) = some 2 := by decide +kernel
set_option maxHeartbeats 4000000 in
set_option maxRecDepth 100000 in
theorem t_X5_survey_14 {l : Launch} {G : k_G} {p : Program} {e : Env} {s : State} {m : MethodId} {args : Array Value} {below : List Frame} {meth : Method} {c : Code} {A : Nat → Prop} {h_a1 h_t h_t_energies : Nat} {g_a1_complete g_a1_growth g_a1_stacks g_a1_names g_a1_unsureCount g_a1_unsureStacks g_a1_unsurePlaces g_a1_agreedCount g_a1_agreedStacks g_a1_agreedDistances g_a1_agreedLayers g_t_queue g_t_reached g_t_queued g_t_leastAbove g_t_rowAtRest g_t_slipsToRest : Value} {out : Int32 × Int32 × (Nat → Int32)} (C0 : k_C G p s m args meth c A cX5_survey RX5 wsX5_survey 4 none "survey") : ∀ (n : Nat) (x2 : Int32) (x3 : Int32) (v_a1_near : Int32) (v_a1_second : Int32) (v_a1_third : Int32) (v_t_rows : Int32) (v_t_steps : Int32) (w_t_energies : Nat → Int32) (H : Heap) (locs : List Loc) (ls : Array Slot), va_P G.1 vwCl [(h_a1, .inr (2, [g_a1_complete, .int v_a1_near, .int v_a1_second, .int v_a1_third, g_a1_growth, g_a1_stacks, g_a1_names, g_a1_unsureCount, g_a1_unsureStacks, g_a1_unsurePlaces, g_a1_agreedCount, g_a1_agreedStacks, g_a1_agreedDistances, g_a1_agreedLayers])), (h_t, .inr (3, [.ref h_t_energies, g_t_queue, g_t_reached, .int v_t_steps, .int v_t_rows, g_t_queued, g_t_leastAbove, g_t_rowAtRest, g_t_slipsToRest])), (h_t_energies, .inl (k_cI G, 4096, .inl w_t_energies))] H → va_D A [(h_a1, .inr (2, [g_a1_complete, .int v_a1_near, .int v_a1_second, .int v_a1_third, g_a1_growth, g_a1_stacks, g_a1_names, g_a1_unsureCount, g_a1_unsureStacks, g_a1_unsurePlaces, g_a1_agreedCount, g_a1_agreedStacks, g_a1_agreedDistances, g_a1_agreedLayers])), (h_t, .inr (3, [.ref h_t_energies, g_t_queue, g_t_reached, .int v_t_steps, .int v_t_rows, g_t_queued, g_t_leastAbove, g_t_rowAtRest, g_t_slipsToRest])), (h_t_energies, .inl (k_cI G, 4096, .inl w_t_energies))] → va_S A s.heap H locs → lv_has ls 4 [(0, .ref h_t), (1, .ref h_a1), (2, .int x2), (3, .int x3)] → f_X5_survey_14 n x2 x3 v_a1_near v_a1_second v_a1_third v_t_rows v_t_steps w_t_energies = some out → W p l e rm_X5_survey s m args below meth c H locs 0 0 (MQ below (k_Qv G A (fun (_ : Unit) => [(h_a1, .inr (2, [g_a1_complete, .int v_a1_near, .int v_a1_second, .int v_a1_third, g_a1_growth, g_a1_stacks, g_a1_names, g_a1_unsureCount, g_a1_unsureStacks, g_a1_unsurePlaces, g_a1_agreedCount, g_a1_agreedStacks, g_a1_agreedDistances, g_a1_agreedLayers])), (h_t, .inr (3, [.ref h_t_energies, g_t_queue, g_t_reached, .int out.2.1, .int out.1, g_t_queued, g_t_leastAbove, g_t_rowAtRest, g_t_slipsToRest])), (h_t_energies, .inl (k_cI G, 4096, .inl out.2.2))])) args s 0 0 A) (F0 m 14 ls []) := by
  have hx := C0.1
  have hb := C0.2.1
  have hts := C0.2.2.2.1
  have hown := C0.2.2.2.2.1
  have hK := C0.2.2.2.2.2.2.2.2.1.1
  have hNW := C0.2.2.2.2.2.2.2.2.1.2.1
  have hSF := C0.2.2.2.2.2.2.2.2.1.2.2
  intro n
  induction n with
  | zero =>
    intro x2 x3 v_a1_near v_a1_second v_a1_third v_t_rows v_t_steps w_t_energies H locs ls hP hD hS hl hrun
    rw [f_X5_survey_14] at hrun
    cases hrun
  | succ n ih =>
    intro x2 x3 v_a1_near v_a1_second v_a1_third v_t_rows v_t_steps w_t_energies H locs ls hP hD hS hl hrun
    rw [f_X5_survey_14] at hrun
    refine lv_iload_n hx hb dX5_survey_14 rfl (lv_at hl 3 rfl) ?_
    refine lv_aload_n hx hb dX5_survey_15 rfl (lv_at hl 0 rfl) ?_
    refine va_get (D := G.1) (ci := 3) (v := .int v_t_rows) (C := RX5) (T := TX5) (N := 9) hx hb hts n_X5_survey_X5 hown hK hP 1 rfl rfl 4 (by decide) (hts _ u_X5_survey_2) (fun _ h9 => h9) rfl dX5_survey_16 ?_
    refine lv_icmp_ge (tgt := 42) hx hb dX5_survey_19 (by decide) (fun q1 => ?_) (fun q1 => ?_)
    · replace hrun := if_t q1 hrun
      obtain rfl := Option.some.inj hrun
      exact k_retv C0 hP hD hS () rfl dX5_survey_42
    · replace hrun := if_f q1 hrun
      refine lv_aload_n hx hb dX5_survey_22 rfl (lv_at hl 0 rfl) ?_
      refine va_get (D := G.1) (ci := 3) (v := .ref h_t_energies) (C := RX5) (T := TX5) (N := 9) hx hb hts n_X5_survey_X5 hown hK hP 1 rfl rfl 0 (by decide) (hts _ u_X5_survey_3) (fun _ h9 => h9) rfl dX5_survey_23 ?_
      refine lv_iload_n hx hb dX5_survey_26 rfl (lv_at hl 3 rfl) ?_
      refine lv_aload_n hx hb dX5_survey_27 rfl (lv_at hl 1 rfl) ?_
      refine lv_iload_n hx hb dX5_survey_28 rfl (lv_at hl 3 rfl) ?_
      refine lv_iload_n hx hb dX5_survey_29 rfl (lv_at hl 2 rfl) ?_
      obtain ⟨t2, et2, hrun⟩ := bd_inv hrun
      refine k_calli (w2 := fun (_ : Unit) => [(h_a1, .inr (2, [g_a1_complete, .int v_a1_near, .int v_a1_second, .int v_a1_third, g_a1_growth, g_a1_stacks, g_a1_names, g_a1_unsureCount, g_a1_unsureStacks, g_a1_unsurePlaces, g_a1_agreedCount, g_a1_agreedStacks, g_a1_agreedDistances, g_a1_agreedLayers])), (h_t, .inr (3, [.ref h_t_energies, g_t_queue, g_t_reached, .int v_t_steps, .int v_t_rows, g_t_queued, g_t_leastAbove, g_t_rowAtRest, g_t_slipsToRest])), (h_t_energies, .inl (k_cI G, 4096, .inl w_t_energies))]) C0 (k_runV (rest := [.int x3, .ref h_t_energies]) C0 (c_X4_energyOf et2) (cwV 2 hts gX5_survey_X4_energyOf rfl rfl rfl e_X4_energyOf ⟨Nat.le_of_ble_eq_true rfl, Nat.le_of_ble_eq_true rfl⟩) hP hD hS [0] rfl (by decide) 0 (qc := (RX4, TX4, 14)) rfl rfl rfl rfl hl.1 rfl (Nat.le_of_ble_eq_true rfl) dX5_survey_30 ⟨Nat.le_of_ble_eq_true rfl, Nat.le_of_ble_eq_true rfl⟩) hP hD hS [0] [1, 2] rfl rfl (by decide) (by decide) [2, 0, 1] (by decide) (fun _ => rfl) (fun _ H locs hP hD hS => ?_)
      have hP : va_P G.1 vwCl [(h_a1, .inr (2, [g_a1_complete, .int v_a1_near, .int v_a1_second, .int v_a1_third, g_a1_growth, g_a1_stacks, g_a1_names, g_a1_unsureCount, g_a1_unsureStacks, g_a1_unsurePlaces, g_a1_agreedCount, g_a1_agreedStacks, g_a1_agreedDistances, g_a1_agreedLayers])), (h_t, .inr (3, [.ref h_t_energies, g_t_queue, g_t_reached, .int v_t_steps, .int v_t_rows, g_t_queued, g_t_leastAbove, g_t_rowAtRest, g_t_slipsToRest])), (h_t_energies, .inl (k_cI G, 4096, .inl w_t_energies))] H := hP
      have hD : va_D A [(h_a1, .inr (2, [g_a1_complete, .int v_a1_near, .int v_a1_second, .int v_a1_third, g_a1_growth, g_a1_stacks, g_a1_names, g_a1_unsureCount, g_a1_unsureStacks, g_a1_unsurePlaces, g_a1_agreedCount, g_a1_agreedStacks, g_a1_agreedDistances, g_a1_agreedLayers])), (h_t, .inr (3, [.ref h_t_energies, g_t_queue, g_t_reached, .int v_t_steps, .int v_t_rows, g_t_queued, g_t_leastAbove, g_t_rowAtRest, g_t_slipsToRest])), (h_t_energies, .inl (k_cI G, 4096, .inl w_t_energies))] := hD
      obtain ⟨t3, et3, hrun⟩ := bd_inv hrun
      refine k_callv (w2 := fun (_ : Unit) => [(h_a1, .inr (2, [g_a1_complete, .int v_a1_near, .int v_a1_second, .int v_a1_third, g_a1_growth, g_a1_stacks, g_a1_names, g_a1_unsureCount, g_a1_unsureStacks, g_a1_unsurePlaces, g_a1_agreedCount, g_a1_agreedStacks, g_a1_agreedDistances, g_a1_agreedLayers])), (h_t, .inr (3, [.ref h_t_energies, g_t_queue, g_t_reached, .int v_t_steps, .int v_t_rows, g_t_queued, g_t_leastAbove, g_t_rowAtRest, g_t_slipsToRest])), (h_t_energies, .inl (k_cI G, 4096, .inl t3))]) C0 (k_runSN (rest := []) C0 (c_X11_set et3) (va_cnB 3 hts gX5_survey_X11_set_n35 rfl rfl rfl (k_nw hNW 15 nw_X5_survey_15) (hts _ u_X5_survey_27) e_X11_set.2 ⟨Nat.le_of_ble_eq_true rfl, Nat.le_of_ble_eq_true rfl⟩) (hts _ u_X5_survey_26) hP hD hS [2] rfl (by decide) rfl hl.1 rfl (Nat.le_of_ble_eq_true rfl) dX5_survey_33 ⟨Nat.le_of_ble_eq_true rfl, Nat.le_of_ble_eq_true rfl⟩) hP hD hS [2] [0, 1] rfl rfl (by decide) (by decide) [0, 1, 2] (by decide) (fun _ => rfl) (fun _ H locs hP hD hS => ?_)
      have hP : va_P G.1 vwCl [(h_a1, .inr (2, [g_a1_complete, .int v_a1_near, .int v_a1_second, .int v_a1_third, g_a1_growth, g_a1_stacks, g_a1_names, g_a1_unsureCount, g_a1_unsureStacks, g_a1_unsurePlaces, g_a1_agreedCount, g_a1_agreedStacks, g_a1_agreedDistances, g_a1_agreedLayers])), (h_t, .inr (3, [.ref h_t_energies, g_t_queue, g_t_reached, .int v_t_steps, .int v_t_rows, g_t_queued, g_t_leastAbove, g_t_rowAtRest, g_t_slipsToRest])), (h_t_energies, .inl (k_cI G, 4096, .inl t3))] H := hP
      have hD : va_D A [(h_a1, .inr (2, [g_a1_complete, .int v_a1_near, .int v_a1_second, .int v_a1_third, g_a1_growth, g_a1_stacks, g_a1_names, g_a1_unsureCount, g_a1_unsureStacks, g_a1_unsurePlaces, g_a1_agreedCount, g_a1_agreedStacks, g_a1_agreedDistances, g_a1_agreedLayers])), (h_t, .inr (3, [.ref h_t_energies, g_t_queue, g_t_reached, .int v_t_steps, .int v_t_rows, g_t_queued, g_t_leastAbove, g_t_rowAtRest, g_t_slipsToRest])), (h_t_energies, .inl (k_cI G, 4096, .inl t3))] := hD
      refine lv_iinc (v := x3 + 1) (lv' := [(3, .int (x3 + 1)), (0, .ref h_t), (1, .ref h_a1), (2, .int x2)]) hx hb dX5_survey_36 hl (k := 3) rfl rfl (by decide) rfl (fun ls hl => ?_)
      refine lv_goto (tgt := 14) hx hb dX5_survey_39 (by decide) ?_
      exact ih x2 (x3 + 1) v_a1_near v_a1_second v_a1_third v_t_rows v_t_steps t3 _ _ _ hP hD hS (lv_sub hl [1, 2, 3, 0] rfl) hrun
set_option maxHeartbeats 4000000 in
set_option maxRecDepth 100000 in
theorem c_X5_survey {l : Launch} {G : k_G} {h_a1 h_t h_t_energies : Nat} {g_a1_complete g_a1_growth g_a1_stacks g_a1_names g_a1_unsureCount g_a1_unsureStacks g_a1_unsurePlaces g_a1_agreedCount g_a1_agreedStacks g_a1_agreedDistances g_a1_agreedLayers g_t_queue g_t_reached g_t_queued g_t_leastAbove g_t_rowAtRest g_t_slipsToRest : Value} {sz : Nat} {p2 : Int32} {v_a1_near : Int32} {v_a1_second : Int32} {v_a1_third : Int32} {v_t_rows : Int32} {v_t_steps : Int32} {w_t_energies : Nat → Int32} {out : Int32 × Int32 × (Nat → Int32)} (hrun : f_X5_survey p2 v_a1_near v_a1_second v_a1_third v_t_rows v_t_steps w_t_energies = some out) : k_Cv l G yX5_survey wsX5_survey rm_X5_survey [.ref h_t, .ref h_a1, .int p2] [(h_a1, .inr (2, [g_a1_complete, .int v_a1_near, .int v_a1_second, .int v_a1_third, g_a1_growth, g_a1_stacks, g_a1_names, g_a1_unsureCount, g_a1_unsureStacks, g_a1_unsurePlaces, g_a1_agreedCount, g_a1_agreedStacks, g_a1_agreedDistances, g_a1_agreedLayers])), (h_t, .inr (3, [.ref h_t_energies, g_t_queue, g_t_reached, .int v_t_steps, .int v_t_rows, g_t_queued, g_t_leastAbove, g_t_rowAtRest, g_t_slipsToRest])), (h_t_energies, .inl (k_cI G, 4096, .inl w_t_energies))] sz (fun (_ : Unit) => [(h_a1, .inr (2, [g_a1_complete, .int v_a1_near, .int v_a1_second, .int v_a1_third, g_a1_growth, g_a1_stacks, g_a1_names, g_a1_unsureCount, g_a1_unsureStacks, g_a1_unsurePlaces, g_a1_agreedCount, g_a1_agreedStacks, g_a1_agreedDistances, g_a1_agreedLayers])), (h_t, .inr (3, [.ref h_t_energies, g_t_queue, g_t_reached, .int out.2.1, .int out.1, g_t_queued, g_t_leastAbove, g_t_rowAtRest, g_t_slipsToRest])), (h_t_energies, .inl (k_cI G, 4096, .inl out.2.2))]) 0 0 := by
  refine k_of (cc := cX5_survey) (nL := 4) (ret := none) (own := RX5) (nm := "survey") (by decide) rfl rfl rfl rfl ?_
  intro p e s m args below meth c ls hsz C0 hP hD hS hl
  have hl : lv_has ls 4 [(0, .ref h_t), (1, .ref h_a1), (2, .int p2)] := hl
  generalize hH : s.heap = H at hP
  have hS : va_S (va_A [(h_a1, .inr (2, [g_a1_complete, .int v_a1_near, .int v_a1_second, .int v_a1_third, g_a1_growth, g_a1_stacks, g_a1_names, g_a1_unsureCount, g_a1_unsureStacks, g_a1_unsurePlaces, g_a1_agreedCount, g_a1_agreedStacks, g_a1_agreedDistances, g_a1_agreedLayers])), (h_t, .inr (3, [.ref h_t_energies, g_t_queue, g_t_reached, .int v_t_steps, .int v_t_rows, g_t_queued, g_t_leastAbove, g_t_rowAtRest, g_t_slipsToRest])), (h_t_energies, .inl (k_cI G, 4096, .inl w_t_energies))] sz) s.heap H [] := by rw [← hH]; exact hS
  clear hH
  generalize va_A [(h_a1, .inr (2, [g_a1_complete, .int v_a1_near, .int v_a1_second, .int v_a1_third, g_a1_growth, g_a1_stacks, g_a1_names, g_a1_unsureCount, g_a1_unsureStacks, g_a1_unsurePlaces, g_a1_agreedCount, g_a1_agreedStacks, g_a1_agreedDistances, g_a1_agreedLayers])), (h_t, .inr (3, [.ref h_t_energies, g_t_queue, g_t_reached, .int v_t_steps, .int v_t_rows, g_t_queued, g_t_leastAbove, g_t_rowAtRest, g_t_slipsToRest])), (h_t_energies, .inl (k_cI G, 4096, .inl w_t_energies))] sz = A at C0 hD hS ⊢
  have hx := C0.1
  have hb := C0.2.1
  have hts := C0.2.2.2.1
  have hown := C0.2.2.2.2.1
  have hK := C0.2.2.2.2.2.2.2.2.1.1
  have hNW := C0.2.2.2.2.2.2.2.2.1.2.1
  have hSF := C0.2.2.2.2.2.2.2.2.1.2.2
  rw [f_X5_survey] at hrun
  refine lv_aload_n hx hb dX5_survey_0 rfl (lv_at hl 0 rfl) ?_
  refine lv_iload_n hx hb dX5_survey_1 rfl (lv_at hl 2 rfl) ?_
  refine va_put (D := G.1) (ci := 3) (v := .int p2) (ty := .int) (C := RX5) (T := TX5) (N := 9) hx hb hts n_X5_survey_X5 tyX5 tyX5_ok nmX5 hown hK hP hD hS 1 rfl rfl 3 (by decide) (hts _ u_X5_survey_1) (fun _ h9 => h9) rfl (by decide +kernel) rfl rfl (Nat.le_of_ble_eq_true rfl) dX5_survey_2 (fun H locs hP hD hS => ?_)
  have hP : va_P G.1 vwCl [(h_a1, .inr (2, [g_a1_complete, .int v_a1_near, .int v_a1_second, .int v_a1_third, g_a1_growth, g_a1_stacks, g_a1_names, g_a1_unsureCount, g_a1_unsureStacks, g_a1_unsurePlaces, g_a1_agreedCount, g_a1_agreedStacks, g_a1_agreedDistances, g_a1_agreedLayers])), (h_t, .inr (3, [.ref h_t_energies, g_t_queue, g_t_reached, .int p2, .int v_t_rows, g_t_queued, g_t_leastAbove, g_t_rowAtRest, g_t_slipsToRest])), (h_t_energies, .inl (k_cI G, 4096, .inl w_t_energies))] H := hP
  have hD : va_D A [(h_a1, .inr (2, [g_a1_complete, .int v_a1_near, .int v_a1_second, .int v_a1_third, g_a1_growth, g_a1_stacks, g_a1_names, g_a1_unsureCount, g_a1_unsureStacks, g_a1_unsurePlaces, g_a1_agreedCount, g_a1_agreedStacks, g_a1_agreedDistances, g_a1_agreedLayers])), (h_t, .inr (3, [.ref h_t_energies, g_t_queue, g_t_reached, .int p2, .int v_t_rows, g_t_queued, g_t_leastAbove, g_t_rowAtRest, g_t_slipsToRest])), (h_t_energies, .inl (k_cI G, 4096, .inl w_t_energies))] := hD
  refine lv_aload_n hx hb dX5_survey_5 rfl (lv_at hl 0 rfl) ?_
  refine lv_iconst (v := 1) hx hb dX5_survey_6 (by decide) ?_
  refine lv_iload_n hx hb dX5_survey_7 rfl (lv_at hl 2 rfl) ?_
  refine lv_ishl hx hb dX5_survey_8 ?_
  obtain ⟨n1, en, hrun⟩ := lt_inv hrun
  refine k_nmi en ?_
  clear en
  refine va_put (D := G.1) (ci := 3) (v := .int n1) (ty := .int) (C := RX5) (T := TX5) (N := 9) hx hb hts n_X5_survey_X5 tyX5 tyX5_ok nmX5 hown hK hP hD hS 1 rfl rfl 4 (by decide) (hts _ u_X5_survey_2) (fun _ h9 => h9) rfl (by decide +kernel) rfl rfl (Nat.le_of_ble_eq_true rfl) dX5_survey_9 (fun H locs hP hD hS => ?_)
  have hP : va_P G.1 vwCl [(h_a1, .inr (2, [g_a1_complete, .int v_a1_near, .int v_a1_second, .int v_a1_third, g_a1_growth, g_a1_stacks, g_a1_names, g_a1_unsureCount, g_a1_unsureStacks, g_a1_unsurePlaces, g_a1_agreedCount, g_a1_agreedStacks, g_a1_agreedDistances, g_a1_agreedLayers])), (h_t, .inr (3, [.ref h_t_energies, g_t_queue, g_t_reached, .int p2, .int n1, g_t_queued, g_t_leastAbove, g_t_rowAtRest, g_t_slipsToRest])), (h_t_energies, .inl (k_cI G, 4096, .inl w_t_energies))] H := hP
  have hD : va_D A [(h_a1, .inr (2, [g_a1_complete, .int v_a1_near, .int v_a1_second, .int v_a1_third, g_a1_growth, g_a1_stacks, g_a1_names, g_a1_unsureCount, g_a1_unsureStacks, g_a1_unsurePlaces, g_a1_agreedCount, g_a1_agreedStacks, g_a1_agreedDistances, g_a1_agreedLayers])), (h_t, .inr (3, [.ref h_t_energies, g_t_queue, g_t_reached, .int p2, .int n1, g_t_queued, g_t_leastAbove, g_t_rowAtRest, g_t_slipsToRest])), (h_t_energies, .inl (k_cI G, 4096, .inl w_t_energies))] := hD
  refine lv_iconst (v := 0) hx hb dX5_survey_12 (by decide) ?_
  refine lv_istore_n (lv' := [(3, .int (0 : Int32)), (0, .ref h_t), (1, .ref h_a1), (2, .int p2)]) hx hb dX5_survey_13 rfl hl (by decide) rfl (fun ls hl => ?_)
  exact t_X5_survey_14 C0 kFU p2 (0 : Int32) v_a1_near v_a1_second v_a1_third n1 p2 w_t_energies _ _ _ hP hD hS (lv_sub hl [1, 2, 3, 0] rfl) hrun
theorem u_X5_lowest_1 : (Cond.fieldLink RX5 11 "ClosePacking$Landscape" "energies" "[I") ∈ wsX5_lowest := List.mem_of_getElem? (i := 1) (by decide +kernel)
theorem u_X5_lowest_2 : (Cond.fieldLink RX5 26 "ClosePacking$Landscape" "rows" "I") ∈ wsX5_lowest := List.mem_of_getElem? (i := 2) (by decide +kernel)
theorem u_X5_lowest_3 : (Cond.methodLink RX5 43 Lib.Math.min.name) ∈ wsX5_lowest := List.mem_of_getElem? (i := 3) (by decide +kernel)
theorem u_X5_lowest_4 : (Cond.static Lib.Math.min.name) ∈ wsX5_lowest := List.mem_of_getElem? (i := 4) (by decide +kernel)
theorem u_X5_lowest_5 : (Cond.initialized "java/lang/Math") ∈ wsX5_lowest := List.mem_of_getElem? (i := 5) (by decide +kernel)
theorem u_X5_lowest_6 : (Cond.code Lib.Math.min.name Lib.Math.min.code 2 (some .int)) ∈ wsX5_lowest := List.mem_of_getElem? (i := 6) (by decide +kernel)
theorem u_X5_lowest_7 : (Cond.static yX11_at) ∈ wsX5_lowest := List.mem_of_getElem? (i := 7) (by decide +kernel)
theorem u_X5_lowest_8 : (Cond.initialized RX11) ∈ wsX5_lowest := List.mem_of_getElem? (i := 8) (by decide +kernel)
theorem n_X5_lowest_X5 : ∀ w ∈ u_ws RX5 TX5 9, w ∈ wsX5_lowest := by decide +kernel
theorem nw_X5_lowest_16 : k_nest[16]? = some (.methodLinkNest RX5 39 yX11_at "ClosePacking") := rfl
abbrev rm_X5_lowest : Room := { frames := 1, cells := 0, slots := 0, locals := 21 }
theorem e_X5_lowest : yX5_lowest.cls = RX5 ∧ yX5_lowest.cls ≠ "java/lang/invoke/MethodHandle" ∧ yX5_lowest.cls ≠ "java/lang/invoke/VarHandle" ∧ (parseMethodDescriptor yX5_lowest.desc).map (fun d => d.parameters.length) = some 0 := by decide +kernel
set_option maxHeartbeats 4000000 in
set_option maxRecDepth 100000 in
theorem t_X5_lowest_11 {l : Launch} {G : k_G} {p : Program} {e : Env} {s : State} {m : MethodId} {args : Array Value} {below : List Frame} {meth : Method} {c : Code} {A : Nat → Prop} {h_t h_t_energies : Nat} {g_t_queue g_t_reached g_t_steps g_t_queued g_t_leastAbove g_t_rowAtRest g_t_slipsToRest : Value} {out : Int32} (C0 : k_C G p s m args meth c A cX5_lowest RX5 wsX5_lowest 3 (some .int) "lowest") : ∀ (n : Nat) (x1 : Int32) (x2 : Int32) (v_t_rows : Int32) (w_t_energies : Nat → Int32) (H : Heap) (locs : List Loc) (ls : Array Slot), va_P G.1 vwCl [(h_t, .inr (3, [.ref h_t_energies, g_t_queue, g_t_reached, g_t_steps, .int v_t_rows, g_t_queued, g_t_leastAbove, g_t_rowAtRest, g_t_slipsToRest])), (h_t_energies, .inl (k_cI G, 4096, .inl w_t_energies))] H → va_D A [(h_t, .inr (3, [.ref h_t_energies, g_t_queue, g_t_reached, g_t_steps, .int v_t_rows, g_t_queued, g_t_leastAbove, g_t_rowAtRest, g_t_slipsToRest])), (h_t_energies, .inl (k_cI G, 4096, .inl w_t_energies))] → va_S A s.heap H locs → lv_has ls 3 [(0, .ref h_t), (1, .int x1), (2, .int x2)] → f_X5_lowest_11 n x1 x2 v_t_rows w_t_energies = some out → W p l e rm_X5_lowest s m args below meth c H locs 0 0 (MQ below (k_Qi G A out (fun (_ : Unit) => [(h_t, .inr (3, [.ref h_t_energies, g_t_queue, g_t_reached, g_t_steps, .int v_t_rows, g_t_queued, g_t_leastAbove, g_t_rowAtRest, g_t_slipsToRest])), (h_t_energies, .inl (k_cI G, 4096, .inl w_t_energies))])) args s 0 0 A) (F0 m 11 ls []) := by
  have hx := C0.1
  have hb := C0.2.1
  have hts := C0.2.2.2.1
  have hown := C0.2.2.2.2.1
  have hK := C0.2.2.2.2.2.2.2.2.1.1
  have hNW := C0.2.2.2.2.2.2.2.2.1.2.1
  have hSF := C0.2.2.2.2.2.2.2.2.1.2.2
  intro n
  induction n with
  | zero =>
    intro x1 x2 v_t_rows w_t_energies H locs ls hP hD hS hl hrun
    rw [f_X5_lowest_11] at hrun
    cases hrun
  | succ n ih =>
    intro x1 x2 v_t_rows w_t_energies H locs ls hP hD hS hl hrun
    rw [f_X5_lowest_11] at hrun
    refine lv_iload_n hx hb dX5_lowest_11 rfl (lv_at hl 2 rfl) ?_
    refine lv_aload_n hx hb dX5_lowest_12 rfl (lv_at hl 0 rfl) ?_
    refine va_get (D := G.1) (ci := 3) (v := .int v_t_rows) (C := RX5) (T := TX5) (N := 9) hx hb hts n_X5_lowest_X5 hown hK hP 0 rfl rfl 4 (by decide) (hts _ u_X5_lowest_2) (fun _ h9 => h9) rfl dX5_lowest_13 ?_
    refine lv_icmp_ge (tgt := 38) hx hb dX5_lowest_16 (by decide) (fun q1 => ?_) (fun q1 => ?_)
    · replace hrun := if_t q1 hrun
      refine lv_iload_n hx hb dX5_lowest_38 rfl (lv_at hl 1 rfl) ?_
      obtain rfl := Option.some.inj hrun
      exact k_reti C0 hP hD hS () rfl rfl dX5_lowest_39
    · replace hrun := if_f q1 hrun
      refine lv_iload_n hx hb dX5_lowest_19 rfl (lv_at hl 1 rfl) ?_
      refine lv_aload_n hx hb dX5_lowest_20 rfl (lv_at hl 0 rfl) ?_
      refine va_get (D := G.1) (ci := 3) (v := .ref h_t_energies) (C := RX5) (T := TX5) (N := 9) hx hb hts n_X5_lowest_X5 hown hK hP 0 rfl rfl 0 (by decide) (hts _ u_X5_lowest_1) (fun _ h9 => h9) rfl dX5_lowest_21 ?_
      refine lv_iload_n hx hb dX5_lowest_24 rfl (lv_at hl 2 rfl) ?_
      obtain ⟨t2, et2, hrun⟩ := bd_inv hrun
      refine k_calli (w2 := fun (_ : Unit) => [(h_t, .inr (3, [.ref h_t_energies, g_t_queue, g_t_reached, g_t_steps, .int v_t_rows, g_t_queued, g_t_leastAbove, g_t_rowAtRest, g_t_slipsToRest])), (h_t_energies, .inl (k_cI G, 4096, .inl w_t_energies))]) C0 (k_runSN (rest := [.int x1]) C0 (c_X11_at et2) (va_cnB 2 hts gX5_lowest_X11_at_n39 rfl rfl rfl (k_nw hNW 16 nw_X5_lowest_16) (hts _ u_X5_lowest_8) e_X11_at.2 ⟨Nat.le_of_ble_eq_true rfl, Nat.le_of_ble_eq_true rfl⟩) (hts _ u_X5_lowest_7) hP hD hS [1] rfl (by decide) rfl hl.1 rfl (Nat.le_of_ble_eq_true rfl) dX5_lowest_25 ⟨Nat.le_of_ble_eq_true rfl, Nat.le_of_ble_eq_true rfl⟩) hP hD hS [1] [0] rfl rfl (by decide) (by decide) [0, 1] (by decide) (fun _ => rfl) (fun _ H locs hP hD hS => ?_)
      have hP : va_P G.1 vwCl [(h_t, .inr (3, [.ref h_t_energies, g_t_queue, g_t_reached, g_t_steps, .int v_t_rows, g_t_queued, g_t_leastAbove, g_t_rowAtRest, g_t_slipsToRest])), (h_t_energies, .inl (k_cI G, 4096, .inl w_t_energies))] H := hP
      have hD : va_D A [(h_t, .inr (3, [.ref h_t_energies, g_t_queue, g_t_reached, g_t_steps, .int v_t_rows, g_t_queued, g_t_leastAbove, g_t_rowAtRest, g_t_slipsToRest])), (h_t_energies, .inl (k_cI G, 4096, .inl w_t_energies))] := hD
      refine va_mmin hx hb (C0.2.2.2.2.2.2.1.trans hl.1.symm) hown (hts _ u_X5_lowest_3) (hts _ u_X5_lowest_4) (hts _ u_X5_lowest_5) (hts _ u_X5_lowest_6) (Nat.le_of_ble_eq_true rfl) (Nat.le_of_ble_eq_true rfl) (Nat.le_of_ble_eq_true rfl) (Nat.le_of_ble_eq_true rfl) dX5_lowest_28 ?_
      obtain ⟨n3, en, hrun⟩ := lt_inv hrun
      refine k_nmi en ?_
      clear en
      refine lv_istore_n (lv' := [(1, .int n3), (0, .ref h_t), (2, .int x2)]) hx hb dX5_lowest_31 rfl hl (by decide) rfl (fun ls hl => ?_)
      refine lv_iinc (v := x2 + 1) (lv' := [(2, .int (x2 + 1)), (1, .int n3), (0, .ref h_t)]) hx hb dX5_lowest_32 hl (k := 2) rfl rfl (by decide) rfl (fun ls hl => ?_)
      refine lv_goto (tgt := 11) hx hb dX5_lowest_35 (by decide) ?_
      exact ih n3 (x2 + 1) v_t_rows w_t_energies _ _ _ hP hD hS (lv_sub hl [2, 1, 0] rfl) hrun
set_option maxHeartbeats 4000000 in
set_option maxRecDepth 100000 in
theorem c_X5_lowest {l : Launch} {G : k_G} {h_t h_t_energies : Nat} {g_t_queue g_t_reached g_t_steps g_t_queued g_t_leastAbove g_t_rowAtRest g_t_slipsToRest : Value} {sz : Nat} {v_t_rows : Int32} {w_t_energies : Nat → Int32} {out : Int32} (hrun : f_X5_lowest v_t_rows w_t_energies = some out) : k_Ci l G yX5_lowest wsX5_lowest rm_X5_lowest [.ref h_t] [(h_t, .inr (3, [.ref h_t_energies, g_t_queue, g_t_reached, g_t_steps, .int v_t_rows, g_t_queued, g_t_leastAbove, g_t_rowAtRest, g_t_slipsToRest])), (h_t_energies, .inl (k_cI G, 4096, .inl w_t_energies))] sz out (fun (_ : Unit) => [(h_t, .inr (3, [.ref h_t_energies, g_t_queue, g_t_reached, g_t_steps, .int v_t_rows, g_t_queued, g_t_leastAbove, g_t_rowAtRest, g_t_slipsToRest])), (h_t_energies, .inl (k_cI G, 4096, .inl w_t_energies))]) 0 0 := by
  refine k_of (cc := cX5_lowest) (nL := 3) (ret := some .int) (own := RX5) (nm := "lowest") (by decide) rfl rfl rfl rfl ?_
  intro p e s m args below meth c ls hsz C0 hP hD hS hl
  have hl : lv_has ls 3 [(0, .ref h_t)] := hl
  generalize hH : s.heap = H at hP
  have hS : va_S (va_A [(h_t, .inr (3, [.ref h_t_energies, g_t_queue, g_t_reached, g_t_steps, .int v_t_rows, g_t_queued, g_t_leastAbove, g_t_rowAtRest, g_t_slipsToRest])), (h_t_energies, .inl (k_cI G, 4096, .inl w_t_energies))] sz) s.heap H [] := by rw [← hH]; exact hS
  clear hH
  generalize va_A [(h_t, .inr (3, [.ref h_t_energies, g_t_queue, g_t_reached, g_t_steps, .int v_t_rows, g_t_queued, g_t_leastAbove, g_t_rowAtRest, g_t_slipsToRest])), (h_t_energies, .inl (k_cI G, 4096, .inl w_t_energies))] sz = A at C0 hD hS ⊢
  have hx := C0.1
  have hb := C0.2.1
  have hts := C0.2.2.2.1
  have hown := C0.2.2.2.2.1
  have hK := C0.2.2.2.2.2.2.2.2.1.1
  have hNW := C0.2.2.2.2.2.2.2.2.1.2.1
  have hSF := C0.2.2.2.2.2.2.2.2.1.2.2
  rw [f_X5_lowest] at hrun
  refine lv_aload_n hx hb dX5_lowest_0 rfl (lv_at hl 0 rfl) ?_
  refine va_get (D := G.1) (ci := 3) (v := .ref h_t_energies) (C := RX5) (T := TX5) (N := 9) hx hb hts n_X5_lowest_X5 hown hK hP 0 rfl rfl 0 (by decide) (hts _ u_X5_lowest_1) (fun _ h9 => h9) rfl dX5_lowest_1 ?_
  refine lv_iconst (v := 0) hx hb dX5_lowest_4 (by decide) ?_
  obtain ⟨t1, et1, hrun⟩ := bd_inv hrun
  refine k_calli (w2 := fun (_ : Unit) => [(h_t, .inr (3, [.ref h_t_energies, g_t_queue, g_t_reached, g_t_steps, .int v_t_rows, g_t_queued, g_t_leastAbove, g_t_rowAtRest, g_t_slipsToRest])), (h_t_energies, .inl (k_cI G, 4096, .inl w_t_energies))]) C0 (k_runSN (rest := []) C0 (c_X11_at et1) (va_cnB 2 hts gX5_lowest_X11_at_n39 rfl rfl rfl (k_nw hNW 16 nw_X5_lowest_16) (hts _ u_X5_lowest_8) e_X11_at.2 ⟨Nat.le_of_ble_eq_true rfl, Nat.le_of_ble_eq_true rfl⟩) (hts _ u_X5_lowest_7) hP hD hS [1] rfl (by decide) rfl hl.1 rfl (Nat.le_of_ble_eq_true rfl) dX5_lowest_5 ⟨Nat.le_of_ble_eq_true rfl, Nat.le_of_ble_eq_true rfl⟩) hP hD hS [1] [0] rfl rfl (by decide) (by decide) [0, 1] (by decide) (fun _ => rfl) (fun _ H locs hP hD hS => ?_)
  have hP : va_P G.1 vwCl [(h_t, .inr (3, [.ref h_t_energies, g_t_queue, g_t_reached, g_t_steps, .int v_t_rows, g_t_queued, g_t_leastAbove, g_t_rowAtRest, g_t_slipsToRest])), (h_t_energies, .inl (k_cI G, 4096, .inl w_t_energies))] H := hP
  have hD : va_D A [(h_t, .inr (3, [.ref h_t_energies, g_t_queue, g_t_reached, g_t_steps, .int v_t_rows, g_t_queued, g_t_leastAbove, g_t_rowAtRest, g_t_slipsToRest])), (h_t_energies, .inl (k_cI G, 4096, .inl w_t_energies))] := hD
  refine lv_istore_n (lv' := [(1, .int t1), (0, .ref h_t)]) hx hb dX5_lowest_8 rfl hl (by decide) rfl (fun ls hl => ?_)
  refine lv_iconst (v := 1) hx hb dX5_lowest_9 (by decide) ?_
  refine lv_istore_n (lv' := [(2, .int (1 : Int32)), (1, .int t1), (0, .ref h_t)]) hx hb dX5_lowest_10 rfl hl (by decide) rfl (fun ls hl => ?_)
  exact t_X5_lowest_11 C0 kFU t1 (1 : Int32) v_t_rows w_t_energies _ _ _ hP hD hS (lv_sub hl [2, 1, 0] rfl) hrun
theorem u_X5_lowestRow_1 : (Cond.fieldLink RX5 26 "ClosePacking$Landscape" "rows" "I") ∈ wsX5_lowestRow := List.mem_of_getElem? (i := 1) (by decide +kernel)
theorem u_X5_lowestRow_2 : (Cond.fieldLink RX5 11 "ClosePacking$Landscape" "energies" "[I") ∈ wsX5_lowestRow := List.mem_of_getElem? (i := 2) (by decide +kernel)
theorem u_X5_lowestRow_3 : (Cond.static yX11_at) ∈ wsX5_lowestRow := List.mem_of_getElem? (i := 3) (by decide +kernel)
theorem u_X5_lowestRow_4 : (Cond.initialized RX11) ∈ wsX5_lowestRow := List.mem_of_getElem? (i := 4) (by decide +kernel)
theorem n_X5_lowestRow_X5 : ∀ w ∈ u_ws RX5 TX5 9, w ∈ wsX5_lowestRow := by decide +kernel
theorem nw_X5_lowestRow_16 : k_nest[16]? = some (.methodLinkNest RX5 39 yX11_at "ClosePacking") := rfl
abbrev rm_X5_lowestRow : Room := { frames := 1, cells := 0, slots := 0, locals := 21 }
theorem e_X5_lowestRow : yX5_lowestRow.cls = RX5 ∧ yX5_lowestRow.cls ≠ "java/lang/invoke/MethodHandle" ∧ yX5_lowestRow.cls ≠ "java/lang/invoke/VarHandle" ∧ (parseMethodDescriptor yX5_lowestRow.desc).map (fun d => d.parameters.length) = some 0 := by decide +kernel
set_option maxHeartbeats 4000000 in
set_option maxRecDepth 100000 in
theorem t_X5_lowestRow_33 {l : Launch} {G : k_G} {p : Program} {e : Env} {s : State} {m : MethodId} {args : Array Value} {below : List Frame} {meth : Method} {c : Code} {A : Nat → Prop} {h_t h_t_energies : Nat} {g_t_queue g_t_reached g_t_steps g_t_queued g_t_leastAbove g_t_rowAtRest g_t_slipsToRest : Value} {out : Int32} (C0 : k_C G p s m args meth c A cX5_lowestRow RX5 wsX5_lowestRow 3 (some .int) "lowestRow") (k4 : Int32 → Int32 → Int32 → (Nat → Int32) → Option (Int32)) (hk4 : ∀ (x1 : Int32) (x2 : Int32) (v_t_rows : Int32) (w_t_energies : Nat → Int32) (H : Heap) (locs : List Loc) (ls : Array Slot), va_P G.1 vwCl [(h_t, .inr (3, [.ref h_t_energies, g_t_queue, g_t_reached, g_t_steps, .int v_t_rows, g_t_queued, g_t_leastAbove, g_t_rowAtRest, g_t_slipsToRest])), (h_t_energies, .inl (k_cI G, 4096, .inl w_t_energies))] H → va_D A [(h_t, .inr (3, [.ref h_t_energies, g_t_queue, g_t_reached, g_t_steps, .int v_t_rows, g_t_queued, g_t_leastAbove, g_t_rowAtRest, g_t_slipsToRest])), (h_t_energies, .inl (k_cI G, 4096, .inl w_t_energies))] → va_S A s.heap H locs → lv_has ls 3 [(0, .ref h_t), (1, .int x1), (2, .int x2)] → k4 x1 x2 v_t_rows w_t_energies = some out → W p l e rm_X5_lowestRow s m args below meth c H locs 0 0 (MQ below (k_Qi G A out (fun (_ : Unit) => [(h_t, .inr (3, [.ref h_t_energies, g_t_queue, g_t_reached, g_t_steps, .int v_t_rows, g_t_queued, g_t_leastAbove, g_t_rowAtRest, g_t_slipsToRest])), (h_t_energies, .inl (k_cI G, 4096, .inl w_t_energies))])) args s 0 0 A) (F0 m 4 ls [])) : ∀ (x1 : Int32) (x2 : Int32) (v_t_rows : Int32) (w_t_energies : Nat → Int32) (H : Heap) (locs : List Loc) (ls : Array Slot), va_P G.1 vwCl [(h_t, .inr (3, [.ref h_t_energies, g_t_queue, g_t_reached, g_t_steps, .int v_t_rows, g_t_queued, g_t_leastAbove, g_t_rowAtRest, g_t_slipsToRest])), (h_t_energies, .inl (k_cI G, 4096, .inl w_t_energies))] H → va_D A [(h_t, .inr (3, [.ref h_t_energies, g_t_queue, g_t_reached, g_t_steps, .int v_t_rows, g_t_queued, g_t_leastAbove, g_t_rowAtRest, g_t_slipsToRest])), (h_t_energies, .inl (k_cI G, 4096, .inl w_t_energies))] → va_S A s.heap H locs → lv_has ls 3 [(0, .ref h_t), (1, .int x1), (2, .int x2)] → f_X5_lowestRow_33 k4 x1 x2 v_t_rows w_t_energies = some out → W p l e rm_X5_lowestRow s m args below meth c H locs 0 0 (MQ below (k_Qi G A out (fun (_ : Unit) => [(h_t, .inr (3, [.ref h_t_energies, g_t_queue, g_t_reached, g_t_steps, .int v_t_rows, g_t_queued, g_t_leastAbove, g_t_rowAtRest, g_t_slipsToRest])), (h_t_energies, .inl (k_cI G, 4096, .inl w_t_energies))])) args s 0 0 A) (F0 m 33 ls []) := by
  have hx := C0.1
  have hb := C0.2.1
  have hts := C0.2.2.2.1
  have hown := C0.2.2.2.2.1
  have hK := C0.2.2.2.2.2.2.2.2.1.1
  have hNW := C0.2.2.2.2.2.2.2.2.1.2.1
  have hSF := C0.2.2.2.2.2.2.2.2.1.2.2
  intro x1 x2 v_t_rows w_t_energies H locs ls hP hD hS hl hrun
  rw [f_X5_lowestRow_33] at hrun
  refine lv_iinc (v := x2 + 1) (lv' := [(2, .int (x2 + 1)), (0, .ref h_t), (1, .int x1)]) hx hb dX5_lowestRow_33 hl (k := 2) rfl rfl (by decide) rfl (fun ls hl => ?_)
  refine lv_goto (tgt := 4) hx hb dX5_lowestRow_36 (by decide) ?_
  exact hk4 x1 (x2 + 1) v_t_rows w_t_energies _ _ _ hP hD hS (lv_sub hl [1, 2, 0] rfl) hrun
set_option maxHeartbeats 4000000 in
set_option maxRecDepth 100000 in
theorem t_X5_lowestRow_4 {l : Launch} {G : k_G} {p : Program} {e : Env} {s : State} {m : MethodId} {args : Array Value} {below : List Frame} {meth : Method} {c : Code} {A : Nat → Prop} {h_t h_t_energies : Nat} {g_t_queue g_t_reached g_t_steps g_t_queued g_t_leastAbove g_t_rowAtRest g_t_slipsToRest : Value} {out : Int32} (C0 : k_C G p s m args meth c A cX5_lowestRow RX5 wsX5_lowestRow 3 (some .int) "lowestRow") : ∀ (n : Nat) (x1 : Int32) (x2 : Int32) (v_t_rows : Int32) (w_t_energies : Nat → Int32) (H : Heap) (locs : List Loc) (ls : Array Slot), va_P G.1 vwCl [(h_t, .inr (3, [.ref h_t_energies, g_t_queue, g_t_reached, g_t_steps, .int v_t_rows, g_t_queued, g_t_leastAbove, g_t_rowAtRest, g_t_slipsToRest])), (h_t_energies, .inl (k_cI G, 4096, .inl w_t_energies))] H → va_D A [(h_t, .inr (3, [.ref h_t_energies, g_t_queue, g_t_reached, g_t_steps, .int v_t_rows, g_t_queued, g_t_leastAbove, g_t_rowAtRest, g_t_slipsToRest])), (h_t_energies, .inl (k_cI G, 4096, .inl w_t_energies))] → va_S A s.heap H locs → lv_has ls 3 [(0, .ref h_t), (1, .int x1), (2, .int x2)] → f_X5_lowestRow_4 n x1 x2 v_t_rows w_t_energies = some out → W p l e rm_X5_lowestRow s m args below meth c H locs 0 0 (MQ below (k_Qi G A out (fun (_ : Unit) => [(h_t, .inr (3, [.ref h_t_energies, g_t_queue, g_t_reached, g_t_steps, .int v_t_rows, g_t_queued, g_t_leastAbove, g_t_rowAtRest, g_t_slipsToRest])), (h_t_energies, .inl (k_cI G, 4096, .inl w_t_energies))])) args s 0 0 A) (F0 m 4 ls []) := by
  have hx := C0.1
  have hb := C0.2.1
  have hts := C0.2.2.2.1
  have hown := C0.2.2.2.2.1
  have hK := C0.2.2.2.2.2.2.2.2.1.1
  have hNW := C0.2.2.2.2.2.2.2.2.1.2.1
  have hSF := C0.2.2.2.2.2.2.2.2.1.2.2
  intro n
  induction n with
  | zero =>
    intro x1 x2 v_t_rows w_t_energies H locs ls hP hD hS hl hrun
    rw [f_X5_lowestRow_4] at hrun
    cases hrun
  | succ n ih =>
    intro x1 x2 v_t_rows w_t_energies H locs ls hP hD hS hl hrun
    rw [f_X5_lowestRow_4] at hrun
    refine lv_iload_n hx hb dX5_lowestRow_4 rfl (lv_at hl 2 rfl) ?_
    refine lv_aload_n hx hb dX5_lowestRow_5 rfl (lv_at hl 0 rfl) ?_
    refine va_get (D := G.1) (ci := 3) (v := .int v_t_rows) (C := RX5) (T := TX5) (N := 9) hx hb hts n_X5_lowestRow_X5 hown hK hP 0 rfl rfl 4 (by decide) (hts _ u_X5_lowestRow_1) (fun _ h9 => h9) rfl dX5_lowestRow_6 ?_
    refine lv_icmp_ge (tgt := 39) hx hb dX5_lowestRow_9 (by decide) (fun q1 => ?_) (fun q1 => ?_)
    · replace hrun := if_t q1 hrun
      refine lv_iload_n hx hb dX5_lowestRow_39 rfl (lv_at hl 1 rfl) ?_
      obtain rfl := Option.some.inj hrun
      exact k_reti C0 hP hD hS () rfl rfl dX5_lowestRow_40
    · replace hrun := if_f q1 hrun
      refine lv_aload_n hx hb dX5_lowestRow_12 rfl (lv_at hl 0 rfl) ?_
      refine va_get (D := G.1) (ci := 3) (v := .ref h_t_energies) (C := RX5) (T := TX5) (N := 9) hx hb hts n_X5_lowestRow_X5 hown hK hP 0 rfl rfl 0 (by decide) (hts _ u_X5_lowestRow_2) (fun _ h9 => h9) rfl dX5_lowestRow_13 ?_
      refine lv_iload_n hx hb dX5_lowestRow_16 rfl (lv_at hl 2 rfl) ?_
      obtain ⟨t2, et2, hrun⟩ := bd_inv hrun
      refine k_calli (w2 := fun (_ : Unit) => [(h_t, .inr (3, [.ref h_t_energies, g_t_queue, g_t_reached, g_t_steps, .int v_t_rows, g_t_queued, g_t_leastAbove, g_t_rowAtRest, g_t_slipsToRest])), (h_t_energies, .inl (k_cI G, 4096, .inl w_t_energies))]) C0 (k_runSN (rest := []) C0 (c_X11_at et2) (va_cnB 2 hts gX5_lowestRow_X11_at_n39 rfl rfl rfl (k_nw hNW 16 nw_X5_lowestRow_16) (hts _ u_X5_lowestRow_4) e_X11_at.2 ⟨Nat.le_of_ble_eq_true rfl, Nat.le_of_ble_eq_true rfl⟩) (hts _ u_X5_lowestRow_3) hP hD hS [1] rfl (by decide) rfl hl.1 rfl (Nat.le_of_ble_eq_true rfl) dX5_lowestRow_17 ⟨Nat.le_of_ble_eq_true rfl, Nat.le_of_ble_eq_true rfl⟩) hP hD hS [1] [0] rfl rfl (by decide) (by decide) [0, 1] (by decide) (fun _ => rfl) (fun _ H locs hP hD hS => ?_)
      have hP : va_P G.1 vwCl [(h_t, .inr (3, [.ref h_t_energies, g_t_queue, g_t_reached, g_t_steps, .int v_t_rows, g_t_queued, g_t_leastAbove, g_t_rowAtRest, g_t_slipsToRest])), (h_t_energies, .inl (k_cI G, 4096, .inl w_t_energies))] H := hP
      have hD : va_D A [(h_t, .inr (3, [.ref h_t_energies, g_t_queue, g_t_reached, g_t_steps, .int v_t_rows, g_t_queued, g_t_leastAbove, g_t_rowAtRest, g_t_slipsToRest])), (h_t_energies, .inl (k_cI G, 4096, .inl w_t_energies))] := hD
      refine lv_aload_n hx hb dX5_lowestRow_20 rfl (lv_at hl 0 rfl) ?_
      refine va_get (D := G.1) (ci := 3) (v := .ref h_t_energies) (C := RX5) (T := TX5) (N := 9) hx hb hts n_X5_lowestRow_X5 hown hK hP 0 rfl rfl 0 (by decide) (hts _ u_X5_lowestRow_2) (fun _ h9 => h9) rfl dX5_lowestRow_21 ?_
      refine lv_iload_n hx hb dX5_lowestRow_24 rfl (lv_at hl 1 rfl) ?_
      obtain ⟨t3, et3, hrun⟩ := bd_inv hrun
      refine k_calli (w2 := fun (_ : Unit) => [(h_t, .inr (3, [.ref h_t_energies, g_t_queue, g_t_reached, g_t_steps, .int v_t_rows, g_t_queued, g_t_leastAbove, g_t_rowAtRest, g_t_slipsToRest])), (h_t_energies, .inl (k_cI G, 4096, .inl w_t_energies))]) C0 (k_runSN (rest := [.int t2]) C0 (c_X11_at et3) (va_cnB 2 hts gX5_lowestRow_X11_at_n39 rfl rfl rfl (k_nw hNW 16 nw_X5_lowestRow_16) (hts _ u_X5_lowestRow_4) e_X11_at.2 ⟨Nat.le_of_ble_eq_true rfl, Nat.le_of_ble_eq_true rfl⟩) (hts _ u_X5_lowestRow_3) hP hD hS [1] rfl (by decide) rfl hl.1 rfl (Nat.le_of_ble_eq_true rfl) dX5_lowestRow_25 ⟨Nat.le_of_ble_eq_true rfl, Nat.le_of_ble_eq_true rfl⟩) hP hD hS [1] [0] rfl rfl (by decide) (by decide) [0, 1] (by decide) (fun _ => rfl) (fun _ H locs hP hD hS => ?_)
      have hP : va_P G.1 vwCl [(h_t, .inr (3, [.ref h_t_energies, g_t_queue, g_t_reached, g_t_steps, .int v_t_rows, g_t_queued, g_t_leastAbove, g_t_rowAtRest, g_t_slipsToRest])), (h_t_energies, .inl (k_cI G, 4096, .inl w_t_energies))] H := hP
      have hD : va_D A [(h_t, .inr (3, [.ref h_t_energies, g_t_queue, g_t_reached, g_t_steps, .int v_t_rows, g_t_queued, g_t_leastAbove, g_t_rowAtRest, g_t_slipsToRest])), (h_t_energies, .inl (k_cI G, 4096, .inl w_t_energies))] := hD
      refine lv_icmp_ge (tgt := 33) hx hb dX5_lowestRow_28 (by decide) (fun q4 => ?_) (fun q4 => ?_)
      · replace hrun := if_t q4 hrun
        exact t_X5_lowestRow_33 C0 (fun x1 x2 v_t_rows w_t_energies => f_X5_lowestRow_4 n x1 x2 v_t_rows w_t_energies) ih x1 x2 v_t_rows w_t_energies _ _ _ hP hD hS hl hrun
      · replace hrun := if_f q4 hrun
        refine lv_iload_n hx hb dX5_lowestRow_31 rfl (lv_at hl 2 rfl) ?_
        refine lv_istore_n (lv' := [(1, .int x2), (0, .ref h_t), (2, .int x2)]) hx hb dX5_lowestRow_32 rfl hl (by decide) rfl (fun ls hl => ?_)
        exact t_X5_lowestRow_33 C0 (fun x1 x2 v_t_rows w_t_energies => f_X5_lowestRow_4 n x1 x2 v_t_rows w_t_energies) ih x2 x2 v_t_rows w_t_energies _ _ _ hP hD hS (lv_sub hl [1, 0, 2] rfl) hrun
set_option maxHeartbeats 4000000 in
set_option maxRecDepth 100000 in
theorem c_X5_lowestRow {l : Launch} {G : k_G} {h_t h_t_energies : Nat} {g_t_queue g_t_reached g_t_steps g_t_queued g_t_leastAbove g_t_rowAtRest g_t_slipsToRest : Value} {sz : Nat} {v_t_rows : Int32} {w_t_energies : Nat → Int32} {out : Int32} (hrun : f_X5_lowestRow v_t_rows w_t_energies = some out) : k_Ci l G yX5_lowestRow wsX5_lowestRow rm_X5_lowestRow [.ref h_t] [(h_t, .inr (3, [.ref h_t_energies, g_t_queue, g_t_reached, g_t_steps, .int v_t_rows, g_t_queued, g_t_leastAbove, g_t_rowAtRest, g_t_slipsToRest])), (h_t_energies, .inl (k_cI G, 4096, .inl w_t_energies))] sz out (fun (_ : Unit) => [(h_t, .inr (3, [.ref h_t_energies, g_t_queue, g_t_reached, g_t_steps, .int v_t_rows, g_t_queued, g_t_leastAbove, g_t_rowAtRest, g_t_slipsToRest])), (h_t_energies, .inl (k_cI G, 4096, .inl w_t_energies))]) 0 0 := by
  refine k_of (cc := cX5_lowestRow) (nL := 3) (ret := some .int) (own := RX5) (nm := "lowestRow") (by decide) rfl rfl rfl rfl ?_
  intro p e s m args below meth c ls hsz C0 hP hD hS hl
  have hl : lv_has ls 3 [(0, .ref h_t)] := hl
  generalize hH : s.heap = H at hP
  have hS : va_S (va_A [(h_t, .inr (3, [.ref h_t_energies, g_t_queue, g_t_reached, g_t_steps, .int v_t_rows, g_t_queued, g_t_leastAbove, g_t_rowAtRest, g_t_slipsToRest])), (h_t_energies, .inl (k_cI G, 4096, .inl w_t_energies))] sz) s.heap H [] := by rw [← hH]; exact hS
  clear hH
  generalize va_A [(h_t, .inr (3, [.ref h_t_energies, g_t_queue, g_t_reached, g_t_steps, .int v_t_rows, g_t_queued, g_t_leastAbove, g_t_rowAtRest, g_t_slipsToRest])), (h_t_energies, .inl (k_cI G, 4096, .inl w_t_energies))] sz = A at C0 hD hS ⊢
  have hx := C0.1
  have hb := C0.2.1
  have hts := C0.2.2.2.1
  have hown := C0.2.2.2.2.1
  have hK := C0.2.2.2.2.2.2.2.2.1.1
  have hNW := C0.2.2.2.2.2.2.2.2.1.2.1
  have hSF := C0.2.2.2.2.2.2.2.2.1.2.2
  rw [f_X5_lowestRow] at hrun
  refine lv_iconst (v := 0) hx hb dX5_lowestRow_0 (by decide) ?_
  refine lv_istore_n (lv' := [(1, .int (0 : Int32)), (0, .ref h_t)]) hx hb dX5_lowestRow_1 rfl hl (by decide) rfl (fun ls hl => ?_)
  refine lv_iconst (v := 1) hx hb dX5_lowestRow_2 (by decide) ?_
  refine lv_istore_n (lv' := [(2, .int (1 : Int32)), (1, .int (0 : Int32)), (0, .ref h_t)]) hx hb dX5_lowestRow_3 rfl hl (by decide) rfl (fun ls hl => ?_)
  exact t_X5_lowestRow_4 C0 kFU (0 : Int32) (1 : Int32) v_t_rows w_t_energies _ _ _ hP hD hS (lv_sub hl [2, 1, 0] rfl) hrun
theorem u_X5_lowestMany_1 : (Cond.fieldLink RX5 26 "ClosePacking$Landscape" "rows" "I") ∈ wsX5_lowestMany := List.mem_of_getElem? (i := 1) (by decide +kernel)
theorem u_X5_lowestMany_2 : (Cond.fieldLink RX5 11 "ClosePacking$Landscape" "energies" "[I") ∈ wsX5_lowestMany := List.mem_of_getElem? (i := 2) (by decide +kernel)
theorem u_X5_lowestMany_12 : (Cond.static yX11_at) ∈ wsX5_lowestMany := List.mem_of_getElem? (i := 12) (by decide +kernel)
theorem u_X5_lowestMany_13 : (Cond.initialized RX11) ∈ wsX5_lowestMany := List.mem_of_getElem? (i := 13) (by decide +kernel)
theorem n_X5_lowestMany_X5 : ∀ w ∈ u_ws RX5 TX5 9, w ∈ wsX5_lowestMany := by decide +kernel
theorem nw_X5_lowestMany_16 : k_nest[16]? = some (.methodLinkNest RX5 39 yX11_at "ClosePacking") := rfl
abbrev rm_X5_lowestMany : Room := { frames := 2, cells := 0, slots := 0, locals := 43 }
theorem e_X5_lowestMany : yX5_lowestMany.cls = RX5 ∧ yX5_lowestMany.cls ≠ "java/lang/invoke/MethodHandle" ∧ yX5_lowestMany.cls ≠ "java/lang/invoke/VarHandle" ∧ (parseMethodDescriptor yX5_lowestMany.desc).map (fun d => d.parameters.length) = some 0 := by decide +kernel
set_option maxHeartbeats 4000000 in
set_option maxRecDepth 100000 in
theorem t_X5_lowestMany_35 {l : Launch} {G : k_G} {p : Program} {e : Env} {s : State} {m : MethodId} {args : Array Value} {below : List Frame} {meth : Method} {c : Code} {A : Nat → Prop} {h_t h_t_energies : Nat} {g_t_queue g_t_reached g_t_steps g_t_queued g_t_leastAbove g_t_rowAtRest g_t_slipsToRest : Value} {out : Int32} (C0 : k_C G p s m args meth c A cX5_lowestMany RX5 wsX5_lowestMany 4 (some .int) "lowestMany") (k9 : Int32 → Int32 → Int32 → Int32 → (Nat → Int32) → Option (Int32)) (hk9 : ∀ (x1 : Int32) (x2 : Int32) (x3 : Int32) (v_t_rows : Int32) (w_t_energies : Nat → Int32) (H : Heap) (locs : List Loc) (ls : Array Slot), va_P G.1 vwCl [(h_t, .inr (3, [.ref h_t_energies, g_t_queue, g_t_reached, g_t_steps, .int v_t_rows, g_t_queued, g_t_leastAbove, g_t_rowAtRest, g_t_slipsToRest])), (h_t_energies, .inl (k_cI G, 4096, .inl w_t_energies))] H → va_D A [(h_t, .inr (3, [.ref h_t_energies, g_t_queue, g_t_reached, g_t_steps, .int v_t_rows, g_t_queued, g_t_leastAbove, g_t_rowAtRest, g_t_slipsToRest])), (h_t_energies, .inl (k_cI G, 4096, .inl w_t_energies))] → va_S A s.heap H locs → lv_has ls 4 [(0, .ref h_t), (1, .int x1), (2, .int x2), (3, .int x3)] → k9 x1 x2 x3 v_t_rows w_t_energies = some out → W p l e rm_X5_lowestMany s m args below meth c H locs 0 0 (MQ below (k_Qi G A out (fun (_ : Unit) => [(h_t, .inr (3, [.ref h_t_energies, g_t_queue, g_t_reached, g_t_steps, .int v_t_rows, g_t_queued, g_t_leastAbove, g_t_rowAtRest, g_t_slipsToRest])), (h_t_energies, .inl (k_cI G, 4096, .inl w_t_energies))])) args s 0 0 A) (F0 m 9 ls [])) : ∀ (x1 : Int32) (x3 : Int32) (s0 : Int32) (s1 : Int32) (v_t_rows : Int32) (w_t_energies : Nat → Int32) (H : Heap) (locs : List Loc) (ls : Array Slot), va_P G.1 vwCl [(h_t, .inr (3, [.ref h_t_energies, g_t_queue, g_t_reached, g_t_steps, .int v_t_rows, g_t_queued, g_t_leastAbove, g_t_rowAtRest, g_t_slipsToRest])), (h_t_energies, .inl (k_cI G, 4096, .inl w_t_energies))] H → va_D A [(h_t, .inr (3, [.ref h_t_energies, g_t_queue, g_t_reached, g_t_steps, .int v_t_rows, g_t_queued, g_t_leastAbove, g_t_rowAtRest, g_t_slipsToRest])), (h_t_energies, .inl (k_cI G, 4096, .inl w_t_energies))] → va_S A s.heap H locs → lv_has ls 4 [(0, .ref h_t), (1, .int x1), (3, .int x3)] → f_X5_lowestMany_35 k9 x1 x3 s0 s1 v_t_rows w_t_energies = some out → W p l e rm_X5_lowestMany s m args below meth c H locs 0 0 (MQ below (k_Qi G A out (fun (_ : Unit) => [(h_t, .inr (3, [.ref h_t_energies, g_t_queue, g_t_reached, g_t_steps, .int v_t_rows, g_t_queued, g_t_leastAbove, g_t_rowAtRest, g_t_slipsToRest])), (h_t_energies, .inl (k_cI G, 4096, .inl w_t_energies))])) args s 0 0 A) (F0 m 35 ls [.int s1, .int s0]) := by
  have hx := C0.1
  have hb := C0.2.1
  have hts := C0.2.2.2.1
  have hown := C0.2.2.2.2.1
  have hK := C0.2.2.2.2.2.2.2.2.1.1
  have hNW := C0.2.2.2.2.2.2.2.2.1.2.1
  have hSF := C0.2.2.2.2.2.2.2.2.1.2.2
  intro x1 x3 s0 s1 v_t_rows w_t_energies H locs ls hP hD hS hl hrun
  rw [f_X5_lowestMany_35] at hrun
  refine lv_iadd hx hb dX5_lowestMany_35 ?_
  obtain ⟨n1, en, hrun⟩ := lt_inv hrun
  refine k_nmi en ?_
  clear en
  refine lv_istore_n (lv' := [(2, .int n1), (0, .ref h_t), (1, .int x1), (3, .int x3)]) hx hb dX5_lowestMany_36 rfl hl (by decide) rfl (fun ls hl => ?_)
  refine lv_iinc (v := x3 + 1) (lv' := [(3, .int (x3 + 1)), (2, .int n1), (0, .ref h_t), (1, .int x1)]) hx hb dX5_lowestMany_37 hl (k := 3) rfl rfl (by decide) rfl (fun ls hl => ?_)
  refine lv_goto (tgt := 9) hx hb dX5_lowestMany_40 (by decide) ?_
  exact hk9 x1 n1 (x3 + 1) v_t_rows w_t_energies _ _ _ hP hD hS (lv_sub hl [2, 3, 1, 0] rfl) hrun
set_option maxHeartbeats 4000000 in
set_option maxRecDepth 100000 in
theorem t_X5_lowestMany_9 {l : Launch} {G : k_G} {p : Program} {e : Env} {s : State} {m : MethodId} {args : Array Value} {below : List Frame} {meth : Method} {c : Code} {A : Nat → Prop} {h_t h_t_energies : Nat} {g_t_queue g_t_reached g_t_steps g_t_queued g_t_leastAbove g_t_rowAtRest g_t_slipsToRest : Value} {out : Int32} (C0 : k_C G p s m args meth c A cX5_lowestMany RX5 wsX5_lowestMany 4 (some .int) "lowestMany") : ∀ (n : Nat) (x1 : Int32) (x2 : Int32) (x3 : Int32) (v_t_rows : Int32) (w_t_energies : Nat → Int32) (H : Heap) (locs : List Loc) (ls : Array Slot), va_P G.1 vwCl [(h_t, .inr (3, [.ref h_t_energies, g_t_queue, g_t_reached, g_t_steps, .int v_t_rows, g_t_queued, g_t_leastAbove, g_t_rowAtRest, g_t_slipsToRest])), (h_t_energies, .inl (k_cI G, 4096, .inl w_t_energies))] H → va_D A [(h_t, .inr (3, [.ref h_t_energies, g_t_queue, g_t_reached, g_t_steps, .int v_t_rows, g_t_queued, g_t_leastAbove, g_t_rowAtRest, g_t_slipsToRest])), (h_t_energies, .inl (k_cI G, 4096, .inl w_t_energies))] → va_S A s.heap H locs → lv_has ls 4 [(0, .ref h_t), (1, .int x1), (2, .int x2), (3, .int x3)] → f_X5_lowestMany_9 n x1 x2 x3 v_t_rows w_t_energies = some out → W p l e rm_X5_lowestMany s m args below meth c H locs 0 0 (MQ below (k_Qi G A out (fun (_ : Unit) => [(h_t, .inr (3, [.ref h_t_energies, g_t_queue, g_t_reached, g_t_steps, .int v_t_rows, g_t_queued, g_t_leastAbove, g_t_rowAtRest, g_t_slipsToRest])), (h_t_energies, .inl (k_cI G, 4096, .inl w_t_energies))])) args s 0 0 A) (F0 m 9 ls []) := by
  have hx := C0.1
  have hb := C0.2.1
  have hts := C0.2.2.2.1
  have hown := C0.2.2.2.2.1
  have hK := C0.2.2.2.2.2.2.2.2.1.1
  have hNW := C0.2.2.2.2.2.2.2.2.1.2.1
  have hSF := C0.2.2.2.2.2.2.2.2.1.2.2
  intro n
  induction n with
  | zero =>
    intro x1 x2 x3 v_t_rows w_t_energies H locs ls hP hD hS hl hrun
    rw [f_X5_lowestMany_9] at hrun
    cases hrun
  | succ n ih =>
    intro x1 x2 x3 v_t_rows w_t_energies H locs ls hP hD hS hl hrun
    rw [f_X5_lowestMany_9] at hrun
    refine lv_iload_n hx hb dX5_lowestMany_9 rfl (lv_at hl 3 rfl) ?_
    refine lv_aload_n hx hb dX5_lowestMany_10 rfl (lv_at hl 0 rfl) ?_
    refine va_get (D := G.1) (ci := 3) (v := .int v_t_rows) (C := RX5) (T := TX5) (N := 9) hx hb hts n_X5_lowestMany_X5 hown hK hP 0 rfl rfl 4 (by decide) (hts _ u_X5_lowestMany_1) (fun _ h9 => h9) rfl dX5_lowestMany_11 ?_
    refine lv_icmp_ge (tgt := 43) hx hb dX5_lowestMany_14 (by decide) (fun q1 => ?_) (fun q1 => ?_)
    · replace hrun := if_t q1 hrun
      refine lv_iload_n hx hb dX5_lowestMany_43 rfl (lv_at hl 2 rfl) ?_
      obtain rfl := Option.some.inj hrun
      exact k_reti C0 hP hD hS () rfl rfl dX5_lowestMany_44
    · replace hrun := if_f q1 hrun
      refine lv_iload_n hx hb dX5_lowestMany_17 rfl (lv_at hl 2 rfl) ?_
      refine lv_aload_n hx hb dX5_lowestMany_18 rfl (lv_at hl 0 rfl) ?_
      refine va_get (D := G.1) (ci := 3) (v := .ref h_t_energies) (C := RX5) (T := TX5) (N := 9) hx hb hts n_X5_lowestMany_X5 hown hK hP 0 rfl rfl 0 (by decide) (hts _ u_X5_lowestMany_2) (fun _ h9 => h9) rfl dX5_lowestMany_19 ?_
      refine lv_iload_n hx hb dX5_lowestMany_22 rfl (lv_at hl 3 rfl) ?_
      obtain ⟨t2, et2, hrun⟩ := bd_inv hrun
      refine k_calli (w2 := fun (_ : Unit) => [(h_t, .inr (3, [.ref h_t_energies, g_t_queue, g_t_reached, g_t_steps, .int v_t_rows, g_t_queued, g_t_leastAbove, g_t_rowAtRest, g_t_slipsToRest])), (h_t_energies, .inl (k_cI G, 4096, .inl w_t_energies))]) C0 (k_runSN (rest := [.int x2]) C0 (c_X11_at et2) (va_cnB 2 hts gX5_lowestMany_X11_at_n39 rfl rfl rfl (k_nw hNW 16 nw_X5_lowestMany_16) (hts _ u_X5_lowestMany_13) e_X11_at.2 ⟨Nat.le_of_ble_eq_true rfl, Nat.le_of_ble_eq_true rfl⟩) (hts _ u_X5_lowestMany_12) hP hD hS [1] rfl (by decide) rfl hl.1 rfl (Nat.le_of_ble_eq_true rfl) dX5_lowestMany_23 ⟨Nat.le_of_ble_eq_true rfl, Nat.le_of_ble_eq_true rfl⟩) hP hD hS [1] [0] rfl rfl (by decide) (by decide) [0, 1] (by decide) (fun _ => rfl) (fun _ H locs hP hD hS => ?_)
      have hP : va_P G.1 vwCl [(h_t, .inr (3, [.ref h_t_energies, g_t_queue, g_t_reached, g_t_steps, .int v_t_rows, g_t_queued, g_t_leastAbove, g_t_rowAtRest, g_t_slipsToRest])), (h_t_energies, .inl (k_cI G, 4096, .inl w_t_energies))] H := hP
      have hD : va_D A [(h_t, .inr (3, [.ref h_t_energies, g_t_queue, g_t_reached, g_t_steps, .int v_t_rows, g_t_queued, g_t_leastAbove, g_t_rowAtRest, g_t_slipsToRest])), (h_t_energies, .inl (k_cI G, 4096, .inl w_t_energies))] := hD
      refine lv_iload_n hx hb dX5_lowestMany_26 rfl (lv_at hl 1 rfl) ?_
      refine lv_icmp_ne (tgt := 34) hx hb dX5_lowestMany_27 (by decide) (fun q3 => ?_) (fun q3 => ?_)
      · replace hrun := if_f q3 hrun
        refine lv_iconst (v := 0) hx hb dX5_lowestMany_34 (by decide) ?_
        exact t_X5_lowestMany_35 C0 (fun x1 x2 x3 v_t_rows w_t_energies => f_X5_lowestMany_9 n x1 x2 x3 v_t_rows w_t_energies) ih x1 x3 x2 (0 : Int32) v_t_rows w_t_energies _ _ _ hP hD hS (lv_sub hl [0, 1, 3] rfl) hrun
      · replace hrun := if_t q3 hrun
        refine lv_iconst (v := 1) hx hb dX5_lowestMany_30 (by decide) ?_
        refine lv_goto (tgt := 35) hx hb dX5_lowestMany_31 (by decide) ?_
        exact t_X5_lowestMany_35 C0 (fun x1 x2 x3 v_t_rows w_t_energies => f_X5_lowestMany_9 n x1 x2 x3 v_t_rows w_t_energies) ih x1 x3 x2 (1 : Int32) v_t_rows w_t_energies _ _ _ hP hD hS (lv_sub hl [0, 1, 3] rfl) hrun
set_option maxHeartbeats 4000000 in
set_option maxRecDepth 100000 in
theorem c_X5_lowestMany {l : Launch} {G : k_G} {h_t h_t_energies : Nat} {g_t_queue g_t_reached g_t_steps g_t_queued g_t_leastAbove g_t_rowAtRest g_t_slipsToRest : Value} {sz : Nat} {v_t_rows : Int32} {w_t_energies : Nat → Int32} {out : Int32} (hrun : f_X5_lowestMany v_t_rows w_t_energies = some out) : k_Ci l G yX5_lowestMany wsX5_lowestMany rm_X5_lowestMany [.ref h_t] [(h_t, .inr (3, [.ref h_t_energies, g_t_queue, g_t_reached, g_t_steps, .int v_t_rows, g_t_queued, g_t_leastAbove, g_t_rowAtRest, g_t_slipsToRest])), (h_t_energies, .inl (k_cI G, 4096, .inl w_t_energies))] sz out (fun (_ : Unit) => [(h_t, .inr (3, [.ref h_t_energies, g_t_queue, g_t_reached, g_t_steps, .int v_t_rows, g_t_queued, g_t_leastAbove, g_t_rowAtRest, g_t_slipsToRest])), (h_t_energies, .inl (k_cI G, 4096, .inl w_t_energies))]) 0 0 := by
  refine k_of (cc := cX5_lowestMany) (nL := 4) (ret := some .int) (own := RX5) (nm := "lowestMany") (by decide) rfl rfl rfl rfl ?_
  intro p e s m args below meth c ls hsz C0 hP hD hS hl
  have hl : lv_has ls 4 [(0, .ref h_t)] := hl
  generalize hH : s.heap = H at hP
  have hS : va_S (va_A [(h_t, .inr (3, [.ref h_t_energies, g_t_queue, g_t_reached, g_t_steps, .int v_t_rows, g_t_queued, g_t_leastAbove, g_t_rowAtRest, g_t_slipsToRest])), (h_t_energies, .inl (k_cI G, 4096, .inl w_t_energies))] sz) s.heap H [] := by rw [← hH]; exact hS
  clear hH
  generalize va_A [(h_t, .inr (3, [.ref h_t_energies, g_t_queue, g_t_reached, g_t_steps, .int v_t_rows, g_t_queued, g_t_leastAbove, g_t_rowAtRest, g_t_slipsToRest])), (h_t_energies, .inl (k_cI G, 4096, .inl w_t_energies))] sz = A at C0 hD hS ⊢
  have hx := C0.1
  have hb := C0.2.1
  have hts := C0.2.2.2.1
  have hown := C0.2.2.2.2.1
  have hK := C0.2.2.2.2.2.2.2.2.1.1
  have hNW := C0.2.2.2.2.2.2.2.2.1.2.1
  have hSF := C0.2.2.2.2.2.2.2.2.1.2.2
  rw [f_X5_lowestMany] at hrun
  refine lv_aload_n hx hb dX5_lowestMany_0 rfl (lv_at hl 0 rfl) ?_
  obtain ⟨t1, et1, hrun⟩ := bd_inv hrun
  refine k_calli (w2 := fun (_ : Unit) => [(h_t, .inr (3, [.ref h_t_energies, g_t_queue, g_t_reached, g_t_steps, .int v_t_rows, g_t_queued, g_t_leastAbove, g_t_rowAtRest, g_t_slipsToRest])), (h_t_energies, .inl (k_cI G, 4096, .inl w_t_energies))]) C0 (k_runV (rest := []) C0 (c_X5_lowest et1) (cwV 0 hts gX5_lowestMany_X5_lowest rfl rfl rfl e_X5_lowest ⟨Nat.le_of_ble_eq_true rfl, Nat.le_of_ble_eq_true rfl⟩) hP hD hS [0, 1] rfl (by decide) 0 (qc := (RX5, TX5, 9)) rfl rfl rfl rfl hl.1 rfl (Nat.le_of_ble_eq_true rfl) dX5_lowestMany_1 ⟨Nat.le_of_ble_eq_true rfl, Nat.le_of_ble_eq_true rfl⟩) hP hD hS [0, 1] [] rfl rfl (by decide) (by decide) [0, 1] (by decide) (fun _ => rfl) (fun _ H locs hP hD hS => ?_)
  have hP : va_P G.1 vwCl [(h_t, .inr (3, [.ref h_t_energies, g_t_queue, g_t_reached, g_t_steps, .int v_t_rows, g_t_queued, g_t_leastAbove, g_t_rowAtRest, g_t_slipsToRest])), (h_t_energies, .inl (k_cI G, 4096, .inl w_t_energies))] H := hP
  have hD : va_D A [(h_t, .inr (3, [.ref h_t_energies, g_t_queue, g_t_reached, g_t_steps, .int v_t_rows, g_t_queued, g_t_leastAbove, g_t_rowAtRest, g_t_slipsToRest])), (h_t_energies, .inl (k_cI G, 4096, .inl w_t_energies))] := hD
  refine lv_istore_n (lv' := [(1, .int t1), (0, .ref h_t)]) hx hb dX5_lowestMany_4 rfl hl (by decide) rfl (fun ls hl => ?_)
  refine lv_iconst (v := 0) hx hb dX5_lowestMany_5 (by decide) ?_
  refine lv_istore_n (lv' := [(2, .int (0 : Int32)), (1, .int t1), (0, .ref h_t)]) hx hb dX5_lowestMany_6 rfl hl (by decide) rfl (fun ls hl => ?_)
  refine lv_iconst (v := 0) hx hb dX5_lowestMany_7 (by decide) ?_
  refine lv_istore_n (lv' := [(3, .int (0 : Int32)), (2, .int (0 : Int32)), (1, .int t1), (0, .ref h_t)]) hx hb dX5_lowestMany_8 rfl hl (by decide) rfl (fun ls hl => ?_)
  exact t_X5_lowestMany_9 C0 kFU t1 (0 : Int32) (0 : Int32) v_t_rows w_t_energies _ _ _ hP hD hS (lv_sub hl [3, 2, 1, 0] rfl) hrun
theorem u_X5_reach_1 : (Cond.fieldLink RX5 18 "ClosePacking$Landscape" "reached" "[Z") ∈ wsX5_reach := List.mem_of_getElem? (i := 1) (by decide +kernel)
theorem u_X5_reach_2 : (Cond.fieldLink RX5 15 "ClosePacking$Landscape" "queue" "[I") ∈ wsX5_reach := List.mem_of_getElem? (i := 2) (by decide +kernel)
theorem u_X5_reach_3 : (Cond.fieldLink RX5 52 "ClosePacking$Landscape" "queued" "I") ∈ wsX5_reach := List.mem_of_getElem? (i := 3) (by decide +kernel)
theorem u_X5_reach_4 : (Cond.static yX11_set) ∈ wsX5_reach := List.mem_of_getElem? (i := 4) (by decide +kernel)
theorem u_X5_reach_5 : (Cond.initialized RX11) ∈ wsX5_reach := List.mem_of_getElem? (i := 5) (by decide +kernel)
theorem n_X5_reach_X5 : ∀ w ∈ u_ws RX5 TX5 9, w ∈ wsX5_reach := by decide +kernel
theorem nw_X5_reach_15 : k_nest[15]? = some (.methodLinkNest RX5 35 yX11_set "ClosePacking") := rfl
abbrev rm_X5_reach : Room := { frames := 1, cells := 0, slots := 0, locals := 22 }
theorem e_X5_reach : yX5_reach.cls = RX5 ∧ yX5_reach.cls ≠ "java/lang/invoke/MethodHandle" ∧ yX5_reach.cls ≠ "java/lang/invoke/VarHandle" ∧ (parseMethodDescriptor yX5_reach.desc).map (fun d => d.parameters.length) = some 1 := by decide +kernel
set_option maxHeartbeats 4000000 in
set_option maxRecDepth 100000 in
theorem c_X5_reach {l : Launch} {G : k_G} {h_t h_t_queue h_t_reached : Nat} {g_t_energies g_t_steps g_t_rows g_t_leastAbove g_t_rowAtRest g_t_slipsToRest : Value} {sz : Nat} {p1 : Int32} {v_t_queued : Int32} {w_t_queue : Nat → Int32} {w_t_reached : Nat → Int32} {out : Int32 × (Nat → Int32) × (Nat → Int32)} (hrun : f_X5_reach p1 v_t_queued w_t_queue w_t_reached = some out) : k_Cv l G yX5_reach wsX5_reach rm_X5_reach [.ref h_t, .int p1] [(h_t, .inr (3, [g_t_energies, .ref h_t_queue, .ref h_t_reached, g_t_steps, g_t_rows, .int v_t_queued, g_t_leastAbove, g_t_rowAtRest, g_t_slipsToRest])), (h_t_queue, .inl (k_cI G, 4096, .inl w_t_queue)), (h_t_reached, .inl (k_cZ G, 4096, .inl w_t_reached))] sz (fun (_ : Unit) => [(h_t, .inr (3, [g_t_energies, .ref h_t_queue, .ref h_t_reached, g_t_steps, g_t_rows, .int out.1, g_t_leastAbove, g_t_rowAtRest, g_t_slipsToRest])), (h_t_queue, .inl (k_cI G, 4096, .inl out.2.1)), (h_t_reached, .inl (k_cZ G, 4096, .inl out.2.2))]) 0 0 := by
  refine k_of (cc := cX5_reach) (nL := 2) (ret := none) (own := RX5) (nm := "reach") (by decide) rfl rfl rfl rfl ?_
  intro p e s m args below meth c ls hsz C0 hP hD hS hl
  have hl : lv_has ls 2 [(0, .ref h_t), (1, .int p1)] := hl
  generalize hH : s.heap = H at hP
  have hS : va_S (va_A [(h_t, .inr (3, [g_t_energies, .ref h_t_queue, .ref h_t_reached, g_t_steps, g_t_rows, .int v_t_queued, g_t_leastAbove, g_t_rowAtRest, g_t_slipsToRest])), (h_t_queue, .inl (k_cI G, 4096, .inl w_t_queue)), (h_t_reached, .inl (k_cZ G, 4096, .inl w_t_reached))] sz) s.heap H [] := by rw [← hH]; exact hS
  clear hH
  generalize va_A [(h_t, .inr (3, [g_t_energies, .ref h_t_queue, .ref h_t_reached, g_t_steps, g_t_rows, .int v_t_queued, g_t_leastAbove, g_t_rowAtRest, g_t_slipsToRest])), (h_t_queue, .inl (k_cI G, 4096, .inl w_t_queue)), (h_t_reached, .inl (k_cZ G, 4096, .inl w_t_reached))] sz = A at C0 hD hS ⊢
  have hx := C0.1
  have hb := C0.2.1
  have hts := C0.2.2.2.1
  have hown := C0.2.2.2.2.1
  have hK := C0.2.2.2.2.2.2.2.2.1.1
  have hNW := C0.2.2.2.2.2.2.2.2.1.2.1
  have hSF := C0.2.2.2.2.2.2.2.2.1.2.2
  rw [f_X5_reach] at hrun
  refine lv_iload_n hx hb dX5_reach_0 rfl (lv_at hl 1 rfl) ?_
  refine lv_if_lt (tgt := 51) hx hb dX5_reach_1 (by decide) (fun q1 => ?_) (fun q1 => ?_)
  · replace hrun := if_t q1 hrun
    obtain rfl := Option.some.inj hrun
    exact k_retv C0 hP hD hS () rfl dX5_reach_51
  · replace hrun := if_f q1 hrun
    refine lv_iload_n hx hb dX5_reach_4 rfl (lv_at hl 1 rfl) ?_
    refine lv_aload_n hx hb dX5_reach_5 rfl (lv_at hl 0 rfl) ?_
    refine va_get (D := G.1) (ci := 3) (v := .ref h_t_reached) (C := RX5) (T := TX5) (N := 9) hx hb hts n_X5_reach_X5 hown hK hP 0 rfl rfl 2 (by decide) (hts _ u_X5_reach_1) (fun _ h9 => h9) rfl dX5_reach_6 ?_
    refine va_alen (v := (4096 : Int32)) hx hb hK hP 2 3 rfl rfl rfl dX5_reach_9 ?_
    refine lv_icmp_ge (tgt := 51) hx hb dX5_reach_10 (by decide) (fun q2 => ?_) (fun q2 => ?_)
    · replace hrun := if_t q2 hrun
      obtain rfl := Option.some.inj hrun
      exact k_retv C0 hP hD hS () rfl dX5_reach_51
    · replace hrun := if_f q2 hrun
      refine lv_aload_n hx hb dX5_reach_13 rfl (lv_at hl 0 rfl) ?_
      refine va_get (D := G.1) (ci := 3) (v := .ref h_t_reached) (C := RX5) (T := TX5) (N := 9) hx hb hts n_X5_reach_X5 hown hK hP 0 rfl rfl 2 (by decide) (hts _ u_X5_reach_1) (fun _ h9 => h9) rfl dX5_reach_14 ?_
      refine lv_iload_n hx hb dX5_reach_17 rfl (lv_at hl 1 rfl) ?_
      obtain ⟨gz3, hrun⟩ := gd_inv hrun
      refine va_zald hx hb hK hP 2 3 rfl rfl gz3 dX5_reach_18 ?_
      refine lv_if_ne (tgt := 51) hx hb dX5_reach_19 (by decide) (fun q4 => ?_) (fun q4 => ?_)
      · replace hrun := if_f q4 hrun
        obtain rfl := Option.some.inj hrun
        exact k_retv C0 hP hD hS () rfl dX5_reach_51
      · replace hrun := if_t q4 hrun
        refine lv_aload_n hx hb dX5_reach_22 rfl (lv_at hl 0 rfl) ?_
        refine va_get (D := G.1) (ci := 3) (v := .ref h_t_reached) (C := RX5) (T := TX5) (N := 9) hx hb hts n_X5_reach_X5 hown hK hP 0 rfl rfl 2 (by decide) (hts _ u_X5_reach_1) (fun _ h9 => h9) rfl dX5_reach_23 ?_
        refine lv_iload_n hx hb dX5_reach_26 rfl (lv_at hl 1 rfl) ?_
        refine lv_iconst (v := 1) hx hb dX5_reach_27 (by decide) ?_
        obtain ⟨gz5, hrun⟩ := gd_inv hrun
        obtain ⟨w6, ew, hrun⟩ := lt_inv hrun
        refine va_zast hx hb hK hP hD hS 2 3 rfl rfl gz5 dX5_reach_28 (fun H locs hP hD hS => ?_)
        have hP : va_P G.1 vwCl [(h_t, .inr (3, [g_t_energies, .ref h_t_queue, .ref h_t_reached, g_t_steps, g_t_rows, .int v_t_queued, g_t_leastAbove, g_t_rowAtRest, g_t_slipsToRest])), (h_t_queue, .inl (k_cI G, 4096, .inl w_t_queue)), (h_t_reached, .inl (k_cZ G, 4096, .inl w6))] H := by rw [ew]; exact hP
        have hD : va_D A [(h_t, .inr (3, [g_t_energies, .ref h_t_queue, .ref h_t_reached, g_t_steps, g_t_rows, .int v_t_queued, g_t_leastAbove, g_t_rowAtRest, g_t_slipsToRest])), (h_t_queue, .inl (k_cI G, 4096, .inl w_t_queue)), (h_t_reached, .inl (k_cZ G, 4096, .inl w6))] := by rw [ew]; exact hD
        clear ew
        refine lv_aload_n hx hb dX5_reach_29 rfl (lv_at hl 0 rfl) ?_
        refine va_get (D := G.1) (ci := 3) (v := .ref h_t_queue) (C := RX5) (T := TX5) (N := 9) hx hb hts n_X5_reach_X5 hown hK hP 0 rfl rfl 1 (by decide) (hts _ u_X5_reach_2) (fun _ h9 => h9) rfl dX5_reach_30 ?_
        refine lv_aload_n hx hb dX5_reach_33 rfl (lv_at hl 0 rfl) ?_
        refine va_get (D := G.1) (ci := 3) (v := .int v_t_queued) (C := RX5) (T := TX5) (N := 9) hx hb hts n_X5_reach_X5 hown hK hP 0 rfl rfl 5 (by decide) (hts _ u_X5_reach_3) (fun _ h9 => h9) rfl dX5_reach_34 ?_
        refine lv_iload_n hx hb dX5_reach_37 rfl (lv_at hl 1 rfl) ?_
        obtain ⟨t7, et7, hrun⟩ := bd_inv hrun
        refine k_callv (w2 := fun (_ : Unit) => [(h_t, .inr (3, [g_t_energies, .ref h_t_queue, .ref h_t_reached, g_t_steps, g_t_rows, .int v_t_queued, g_t_leastAbove, g_t_rowAtRest, g_t_slipsToRest])), (h_t_queue, .inl (k_cI G, 4096, .inl t7)), (h_t_reached, .inl (k_cZ G, 4096, .inl w6))]) C0 (k_runSN (rest := []) C0 (c_X11_set et7) (va_cnB 3 hts gX5_reach_X11_set_n35 rfl rfl rfl (k_nw hNW 15 nw_X5_reach_15) (hts _ u_X5_reach_5) e_X11_set.2 ⟨Nat.le_of_ble_eq_true rfl, Nat.le_of_ble_eq_true rfl⟩) (hts _ u_X5_reach_4) hP hD hS [1] rfl (by decide) rfl hl.1 rfl (Nat.le_of_ble_eq_true rfl) dX5_reach_38 ⟨Nat.le_of_ble_eq_true rfl, Nat.le_of_ble_eq_true rfl⟩) hP hD hS [1] [0, 2] rfl rfl (by decide) (by decide) [0, 2, 1] (by decide) (fun _ => rfl) (fun _ H locs hP hD hS => ?_)
        have hP : va_P G.1 vwCl [(h_t, .inr (3, [g_t_energies, .ref h_t_queue, .ref h_t_reached, g_t_steps, g_t_rows, .int v_t_queued, g_t_leastAbove, g_t_rowAtRest, g_t_slipsToRest])), (h_t_queue, .inl (k_cI G, 4096, .inl t7)), (h_t_reached, .inl (k_cZ G, 4096, .inl w6))] H := hP
        have hD : va_D A [(h_t, .inr (3, [g_t_energies, .ref h_t_queue, .ref h_t_reached, g_t_steps, g_t_rows, .int v_t_queued, g_t_leastAbove, g_t_rowAtRest, g_t_slipsToRest])), (h_t_queue, .inl (k_cI G, 4096, .inl t7)), (h_t_reached, .inl (k_cZ G, 4096, .inl w6))] := hD
        refine lv_aload_n hx hb dX5_reach_41 rfl (lv_at hl 0 rfl) ?_
        refine lv_dup hx hb dX5_reach_42 rfl ?_
        refine va_get (D := G.1) (ci := 3) (v := .int v_t_queued) (C := RX5) (T := TX5) (N := 9) hx hb hts n_X5_reach_X5 hown hK hP 0 rfl rfl 5 (by decide) (hts _ u_X5_reach_3) (fun _ h9 => h9) rfl dX5_reach_43 ?_
        refine lv_iconst (v := 1) hx hb dX5_reach_46 (by decide) ?_
        refine lv_iadd hx hb dX5_reach_47 ?_
        obtain ⟨n8, en, hrun⟩ := lt_inv hrun
        refine k_nmi en ?_
        clear en
        refine va_put (D := G.1) (ci := 3) (v := .int n8) (ty := .int) (C := RX5) (T := TX5) (N := 9) hx hb hts n_X5_reach_X5 tyX5 tyX5_ok nmX5 hown hK hP hD hS 0 rfl rfl 5 (by decide) (hts _ u_X5_reach_3) (fun _ h9 => h9) rfl (by decide +kernel) rfl rfl (Nat.le_of_ble_eq_true rfl) dX5_reach_48 (fun H locs hP hD hS => ?_)
        have hP : va_P G.1 vwCl [(h_t, .inr (3, [g_t_energies, .ref h_t_queue, .ref h_t_reached, g_t_steps, g_t_rows, .int n8, g_t_leastAbove, g_t_rowAtRest, g_t_slipsToRest])), (h_t_queue, .inl (k_cI G, 4096, .inl t7)), (h_t_reached, .inl (k_cZ G, 4096, .inl w6))] H := hP
        have hD : va_D A [(h_t, .inr (3, [g_t_energies, .ref h_t_queue, .ref h_t_reached, g_t_steps, g_t_rows, .int n8, g_t_leastAbove, g_t_rowAtRest, g_t_slipsToRest])), (h_t_queue, .inl (k_cI G, 4096, .inl t7)), (h_t_reached, .inl (k_cZ G, 4096, .inl w6))] := hD
        obtain rfl := Option.some.inj hrun
        exact k_retv C0 hP hD hS () rfl dX5_reach_51
theorem u_X5_flood_1 : (Cond.fieldLink RX5 18 "ClosePacking$Landscape" "reached" "[Z") ∈ wsX5_flood := List.mem_of_getElem? (i := 1) (by decide +kernel)
theorem u_X5_flood_2 : (Cond.fieldLink RX5 52 "ClosePacking$Landscape" "queued" "I") ∈ wsX5_flood := List.mem_of_getElem? (i := 2) (by decide +kernel)
theorem u_X5_flood_3 : (Cond.constant RX5 55 (1000000)) ∈ wsX5_flood := List.mem_of_getElem? (i := 3) (by decide +kernel)
theorem u_X5_flood_4 : (Cond.fieldLink RX5 56 "ClosePacking$Landscape" "leastAbove" "I") ∈ wsX5_flood := List.mem_of_getElem? (i := 4) (by decide +kernel)
theorem u_X5_flood_5 : (Cond.fieldLink RX5 22 "ClosePacking$Landscape" "steps" "I") ∈ wsX5_flood := List.mem_of_getElem? (i := 5) (by decide +kernel)
theorem u_X5_flood_6 : (Cond.fieldLink RX5 15 "ClosePacking$Landscape" "queue" "[I") ∈ wsX5_flood := List.mem_of_getElem? (i := 6) (by decide +kernel)
theorem u_X5_flood_7 : (Cond.fieldLink RX5 11 "ClosePacking$Landscape" "energies" "[I") ∈ wsX5_flood := List.mem_of_getElem? (i := 7) (by decide +kernel)
theorem u_X5_flood_8 : (Cond.methodLink RX5 43 Lib.Math.min.name) ∈ wsX5_flood := List.mem_of_getElem? (i := 8) (by decide +kernel)
theorem u_X5_flood_9 : (Cond.static Lib.Math.min.name) ∈ wsX5_flood := List.mem_of_getElem? (i := 9) (by decide +kernel)
theorem u_X5_flood_10 : (Cond.initialized "java/lang/Math") ∈ wsX5_flood := List.mem_of_getElem? (i := 10) (by decide +kernel)
theorem u_X5_flood_11 : (Cond.code Lib.Math.min.name Lib.Math.min.code 2 (some .int)) ∈ wsX5_flood := List.mem_of_getElem? (i := 11) (by decide +kernel)
theorem u_X5_flood_18 : (Cond.initialized RX11) ∈ wsX5_flood := List.mem_of_getElem? (i := 18) (by decide +kernel)
theorem u_X5_flood_20 : (Cond.static yX11_at) ∈ wsX5_flood := List.mem_of_getElem? (i := 20) (by decide +kernel)
theorem n_X5_flood_X5 : ∀ w ∈ u_ws RX5 TX5 9, w ∈ wsX5_flood := by decide +kernel
theorem nw_X5_flood_16 : k_nest[16]? = some (.methodLinkNest RX5 39 yX11_at "ClosePacking") := rfl
abbrev rm_X5_flood : Room := { frames := 2, cells := 0, slots := 0, locals := 43 }
theorem e_X5_flood : yX5_flood.cls = RX5 ∧ yX5_flood.cls ≠ "java/lang/invoke/MethodHandle" ∧ yX5_flood.cls ≠ "java/lang/invoke/VarHandle" ∧ (parseMethodDescriptor yX5_flood.desc).map (fun d => d.parameters.length) = some 2 := by decide +kernel
set_option maxHeartbeats 4000000 in
set_option maxRecDepth 100000 in
theorem t_X5_flood_126 {l : Launch} {G : k_G} {p : Program} {e : Env} {s : State} {m : MethodId} {args : Array Value} {below : List Frame} {meth : Method} {c : Code} {A : Nat → Prop} {h_t h_t_energies h_t_queue h_t_reached : Nat} {g_t_rows g_t_rowAtRest g_t_slipsToRest : Value} {out : Int32 × Int32 × Int32 × (Nat → Int32) × (Nat → Int32)} (C0 : k_C G p s m args meth c A cX5_flood RX5 wsX5_flood 6 (some .int) "flood") (k42 : Int32 → Int32 → Int32 → Int32 → Int32 → (Nat → Int32) → (Nat → Int32) → (Nat → Int32) → Option (Int32 × Int32 × Int32 × (Nat → Int32) × (Nat → Int32))) (hk42 : ∀ (x2 : Int32) (x3 : Int32) (v_t_leastAbove : Int32) (v_t_queued : Int32) (v_t_steps : Int32) (w_t_energies : Nat → Int32) (w_t_queue : Nat → Int32) (w_t_reached : Nat → Int32) (H : Heap) (locs : List Loc) (ls : Array Slot), va_P G.1 vwCl [(h_t, .inr (3, [.ref h_t_energies, .ref h_t_queue, .ref h_t_reached, .int v_t_steps, g_t_rows, .int v_t_queued, .int v_t_leastAbove, g_t_rowAtRest, g_t_slipsToRest])), (h_t_energies, .inl (k_cI G, 4096, .inl w_t_energies)), (h_t_queue, .inl (k_cI G, 4096, .inl w_t_queue)), (h_t_reached, .inl (k_cZ G, 4096, .inl w_t_reached))] H → va_D A [(h_t, .inr (3, [.ref h_t_energies, .ref h_t_queue, .ref h_t_reached, .int v_t_steps, g_t_rows, .int v_t_queued, .int v_t_leastAbove, g_t_rowAtRest, g_t_slipsToRest])), (h_t_energies, .inl (k_cI G, 4096, .inl w_t_energies)), (h_t_queue, .inl (k_cI G, 4096, .inl w_t_queue)), (h_t_reached, .inl (k_cZ G, 4096, .inl w_t_reached))] → va_S A s.heap H locs → lv_has ls 6 [(0, .ref h_t), (2, .int x2), (3, .int x3)] → k42 x2 x3 v_t_leastAbove v_t_queued v_t_steps w_t_energies w_t_queue w_t_reached = some out → W p l e rm_X5_flood s m args below meth c H locs 0 0 (MQ below (k_Qi G A out.1 (fun (_ : Unit) => [(h_t, .inr (3, [.ref h_t_energies, .ref h_t_queue, .ref h_t_reached, .int v_t_steps, g_t_rows, .int out.2.2.1, .int out.2.1, g_t_rowAtRest, g_t_slipsToRest])), (h_t_energies, .inl (k_cI G, 4096, .inl w_t_energies)), (h_t_queue, .inl (k_cI G, 4096, .inl out.2.2.2.1)), (h_t_reached, .inl (k_cZ G, 4096, .inl out.2.2.2.2))])) args s 0 0 A) (F0 m 42 ls [])) (k60 : Int32 → Int32 → Int32 → Int32 → Int32 → Int32 → (Nat → Int32) → (Nat → Int32) → (Nat → Int32) → Option (Int32 × Int32 × Int32 × (Nat → Int32) × (Nat → Int32))) (hk60 : ∀ (x2 : Int32) (x3 : Int32) (x4 : Int32) (v_t_leastAbove : Int32) (v_t_queued : Int32) (v_t_steps : Int32) (w_t_energies : Nat → Int32) (w_t_queue : Nat → Int32) (w_t_reached : Nat → Int32) (H : Heap) (locs : List Loc) (ls : Array Slot), va_P G.1 vwCl [(h_t, .inr (3, [.ref h_t_energies, .ref h_t_queue, .ref h_t_reached, .int v_t_steps, g_t_rows, .int v_t_queued, .int v_t_leastAbove, g_t_rowAtRest, g_t_slipsToRest])), (h_t_energies, .inl (k_cI G, 4096, .inl w_t_energies)), (h_t_queue, .inl (k_cI G, 4096, .inl w_t_queue)), (h_t_reached, .inl (k_cZ G, 4096, .inl w_t_reached))] H → va_D A [(h_t, .inr (3, [.ref h_t_energies, .ref h_t_queue, .ref h_t_reached, .int v_t_steps, g_t_rows, .int v_t_queued, .int v_t_leastAbove, g_t_rowAtRest, g_t_slipsToRest])), (h_t_energies, .inl (k_cI G, 4096, .inl w_t_energies)), (h_t_queue, .inl (k_cI G, 4096, .inl w_t_queue)), (h_t_reached, .inl (k_cZ G, 4096, .inl w_t_reached))] → va_S A s.heap H locs → lv_has ls 6 [(0, .ref h_t), (2, .int x2), (3, .int x3), (4, .int x4)] → k60 x2 x3 x4 v_t_leastAbove v_t_queued v_t_steps w_t_energies w_t_queue w_t_reached = some out → W p l e rm_X5_flood s m args below meth c H locs 0 0 (MQ below (k_Qi G A out.1 (fun (_ : Unit) => [(h_t, .inr (3, [.ref h_t_energies, .ref h_t_queue, .ref h_t_reached, .int v_t_steps, g_t_rows, .int out.2.2.1, .int out.2.1, g_t_rowAtRest, g_t_slipsToRest])), (h_t_energies, .inl (k_cI G, 4096, .inl w_t_energies)), (h_t_queue, .inl (k_cI G, 4096, .inl out.2.2.2.1)), (h_t_reached, .inl (k_cZ G, 4096, .inl out.2.2.2.2))])) args s 0 0 A) (F0 m 60 ls [])) : ∀ (x2 : Int32) (x3 : Int32) (x4 : Int32) (v_t_leastAbove : Int32) (v_t_queued : Int32) (v_t_steps : Int32) (w_t_energies : Nat → Int32) (w_t_queue : Nat → Int32) (w_t_reached : Nat → Int32) (H : Heap) (locs : List Loc) (ls : Array Slot), va_P G.1 vwCl [(h_t, .inr (3, [.ref h_t_energies, .ref h_t_queue, .ref h_t_reached, .int v_t_steps, g_t_rows, .int v_t_queued, .int v_t_leastAbove, g_t_rowAtRest, g_t_slipsToRest])), (h_t_energies, .inl (k_cI G, 4096, .inl w_t_energies)), (h_t_queue, .inl (k_cI G, 4096, .inl w_t_queue)), (h_t_reached, .inl (k_cZ G, 4096, .inl w_t_reached))] H → va_D A [(h_t, .inr (3, [.ref h_t_energies, .ref h_t_queue, .ref h_t_reached, .int v_t_steps, g_t_rows, .int v_t_queued, .int v_t_leastAbove, g_t_rowAtRest, g_t_slipsToRest])), (h_t_energies, .inl (k_cI G, 4096, .inl w_t_energies)), (h_t_queue, .inl (k_cI G, 4096, .inl w_t_queue)), (h_t_reached, .inl (k_cZ G, 4096, .inl w_t_reached))] → va_S A s.heap H locs → lv_has ls 6 [(0, .ref h_t), (2, .int x2), (3, .int x3), (4, .int x4)] → f_X5_flood_126 k42 k60 x2 x3 x4 v_t_leastAbove v_t_queued v_t_steps w_t_energies w_t_queue w_t_reached = some out → W p l e rm_X5_flood s m args below meth c H locs 0 0 (MQ below (k_Qi G A out.1 (fun (_ : Unit) => [(h_t, .inr (3, [.ref h_t_energies, .ref h_t_queue, .ref h_t_reached, .int v_t_steps, g_t_rows, .int out.2.2.1, .int out.2.1, g_t_rowAtRest, g_t_slipsToRest])), (h_t_energies, .inl (k_cI G, 4096, .inl w_t_energies)), (h_t_queue, .inl (k_cI G, 4096, .inl out.2.2.2.1)), (h_t_reached, .inl (k_cZ G, 4096, .inl out.2.2.2.2))])) args s 0 0 A) (F0 m 126 ls []) := by
  have hx := C0.1
  have hb := C0.2.1
  have hts := C0.2.2.2.1
  have hown := C0.2.2.2.2.1
  have hK := C0.2.2.2.2.2.2.2.2.1.1
  have hNW := C0.2.2.2.2.2.2.2.2.1.2.1
  have hSF := C0.2.2.2.2.2.2.2.2.1.2.2
  intro x2 x3 x4 v_t_leastAbove v_t_queued v_t_steps w_t_energies w_t_queue w_t_reached H locs ls hP hD hS hl hrun
  rw [f_X5_flood_126] at hrun
  refine lv_iinc (v := x4 + 1) (lv' := [(4, .int (x4 + 1)), (0, .ref h_t), (2, .int x2), (3, .int x3)]) hx hb dX5_flood_126 hl (k := 3) rfl rfl (by decide) rfl (fun ls hl => ?_)
  refine lv_goto (tgt := 60) hx hb dX5_flood_129 (by decide) ?_
  exact hk60 x2 x3 (x4 + 1) v_t_leastAbove v_t_queued v_t_steps w_t_energies w_t_queue w_t_reached _ _ _ hP hD hS (lv_sub hl [1, 2, 3, 0] rfl) hrun
set_option maxHeartbeats 4000000 in
set_option maxRecDepth 100000 in
theorem t_X5_flood_60 {l : Launch} {G : k_G} {p : Program} {e : Env} {s : State} {m : MethodId} {args : Array Value} {below : List Frame} {meth : Method} {c : Code} {A : Nat → Prop} {h_t h_t_energies h_t_queue h_t_reached : Nat} {g_t_rows g_t_rowAtRest g_t_slipsToRest : Value} {out : Int32 × Int32 × Int32 × (Nat → Int32) × (Nat → Int32)} (C0 : k_C G p s m args meth c A cX5_flood RX5 wsX5_flood 6 (some .int) "flood") (k42 : Int32 → Int32 → Int32 → Int32 → Int32 → (Nat → Int32) → (Nat → Int32) → (Nat → Int32) → Option (Int32 × Int32 × Int32 × (Nat → Int32) × (Nat → Int32))) (hk42 : ∀ (x2 : Int32) (x3 : Int32) (v_t_leastAbove : Int32) (v_t_queued : Int32) (v_t_steps : Int32) (w_t_energies : Nat → Int32) (w_t_queue : Nat → Int32) (w_t_reached : Nat → Int32) (H : Heap) (locs : List Loc) (ls : Array Slot), va_P G.1 vwCl [(h_t, .inr (3, [.ref h_t_energies, .ref h_t_queue, .ref h_t_reached, .int v_t_steps, g_t_rows, .int v_t_queued, .int v_t_leastAbove, g_t_rowAtRest, g_t_slipsToRest])), (h_t_energies, .inl (k_cI G, 4096, .inl w_t_energies)), (h_t_queue, .inl (k_cI G, 4096, .inl w_t_queue)), (h_t_reached, .inl (k_cZ G, 4096, .inl w_t_reached))] H → va_D A [(h_t, .inr (3, [.ref h_t_energies, .ref h_t_queue, .ref h_t_reached, .int v_t_steps, g_t_rows, .int v_t_queued, .int v_t_leastAbove, g_t_rowAtRest, g_t_slipsToRest])), (h_t_energies, .inl (k_cI G, 4096, .inl w_t_energies)), (h_t_queue, .inl (k_cI G, 4096, .inl w_t_queue)), (h_t_reached, .inl (k_cZ G, 4096, .inl w_t_reached))] → va_S A s.heap H locs → lv_has ls 6 [(0, .ref h_t), (2, .int x2), (3, .int x3)] → k42 x2 x3 v_t_leastAbove v_t_queued v_t_steps w_t_energies w_t_queue w_t_reached = some out → W p l e rm_X5_flood s m args below meth c H locs 0 0 (MQ below (k_Qi G A out.1 (fun (_ : Unit) => [(h_t, .inr (3, [.ref h_t_energies, .ref h_t_queue, .ref h_t_reached, .int v_t_steps, g_t_rows, .int out.2.2.1, .int out.2.1, g_t_rowAtRest, g_t_slipsToRest])), (h_t_energies, .inl (k_cI G, 4096, .inl w_t_energies)), (h_t_queue, .inl (k_cI G, 4096, .inl out.2.2.2.1)), (h_t_reached, .inl (k_cZ G, 4096, .inl out.2.2.2.2))])) args s 0 0 A) (F0 m 42 ls [])) : ∀ (n : Nat) (x2 : Int32) (x3 : Int32) (x4 : Int32) (v_t_leastAbove : Int32) (v_t_queued : Int32) (v_t_steps : Int32) (w_t_energies : Nat → Int32) (w_t_queue : Nat → Int32) (w_t_reached : Nat → Int32) (H : Heap) (locs : List Loc) (ls : Array Slot), va_P G.1 vwCl [(h_t, .inr (3, [.ref h_t_energies, .ref h_t_queue, .ref h_t_reached, .int v_t_steps, g_t_rows, .int v_t_queued, .int v_t_leastAbove, g_t_rowAtRest, g_t_slipsToRest])), (h_t_energies, .inl (k_cI G, 4096, .inl w_t_energies)), (h_t_queue, .inl (k_cI G, 4096, .inl w_t_queue)), (h_t_reached, .inl (k_cZ G, 4096, .inl w_t_reached))] H → va_D A [(h_t, .inr (3, [.ref h_t_energies, .ref h_t_queue, .ref h_t_reached, .int v_t_steps, g_t_rows, .int v_t_queued, .int v_t_leastAbove, g_t_rowAtRest, g_t_slipsToRest])), (h_t_energies, .inl (k_cI G, 4096, .inl w_t_energies)), (h_t_queue, .inl (k_cI G, 4096, .inl w_t_queue)), (h_t_reached, .inl (k_cZ G, 4096, .inl w_t_reached))] → va_S A s.heap H locs → lv_has ls 6 [(0, .ref h_t), (2, .int x2), (3, .int x3), (4, .int x4)] → f_X5_flood_60 k42 n x2 x3 x4 v_t_leastAbove v_t_queued v_t_steps w_t_energies w_t_queue w_t_reached = some out → W p l e rm_X5_flood s m args below meth c H locs 0 0 (MQ below (k_Qi G A out.1 (fun (_ : Unit) => [(h_t, .inr (3, [.ref h_t_energies, .ref h_t_queue, .ref h_t_reached, .int v_t_steps, g_t_rows, .int out.2.2.1, .int out.2.1, g_t_rowAtRest, g_t_slipsToRest])), (h_t_energies, .inl (k_cI G, 4096, .inl w_t_energies)), (h_t_queue, .inl (k_cI G, 4096, .inl out.2.2.2.1)), (h_t_reached, .inl (k_cZ G, 4096, .inl out.2.2.2.2))])) args s 0 0 A) (F0 m 60 ls []) := by
  have hx := C0.1
  have hb := C0.2.1
  have hts := C0.2.2.2.1
  have hown := C0.2.2.2.2.1
  have hK := C0.2.2.2.2.2.2.2.2.1.1
  have hNW := C0.2.2.2.2.2.2.2.2.1.2.1
  have hSF := C0.2.2.2.2.2.2.2.2.1.2.2
  intro n
  induction n with
  | zero =>
    intro x2 x3 x4 v_t_leastAbove v_t_queued v_t_steps w_t_energies w_t_queue w_t_reached H locs ls hP hD hS hl hrun
    rw [f_X5_flood_60] at hrun
    cases hrun
  | succ n ih =>
    intro x2 x3 x4 v_t_leastAbove v_t_queued v_t_steps w_t_energies w_t_queue w_t_reached H locs ls hP hD hS hl hrun
    rw [f_X5_flood_60] at hrun
    refine lv_iload hx hb dX5_flood_60 (lv_at hl 3 rfl) ?_
    refine lv_aload_n hx hb dX5_flood_62 rfl (lv_at hl 0 rfl) ?_
    refine va_get (D := G.1) (ci := 3) (v := .int v_t_steps) (C := RX5) (T := TX5) (N := 9) hx hb hts n_X5_flood_X5 hown hK hP 0 rfl rfl 3 (by decide) (hts _ u_X5_flood_5) (fun _ h9 => h9) rfl dX5_flood_63 ?_
    refine lv_icmp_ge (tgt := 132) hx hb dX5_flood_66 (by decide) (fun q1 => ?_) (fun q1 => ?_)
    · replace hrun := if_t q1 hrun
      refine lv_iinc (v := x3 + 1) (lv' := [(3, .int (x3 + 1)), (0, .ref h_t), (2, .int x2), (4, .int x4)]) hx hb dX5_flood_132 hl (k := 2) rfl rfl (by decide) rfl (fun ls hl => ?_)
      refine lv_goto (tgt := 42) hx hb dX5_flood_135 (by decide) ?_
      exact hk42 x2 (x3 + 1) v_t_leastAbove v_t_queued v_t_steps w_t_energies w_t_queue w_t_reached _ _ _ hP hD hS (lv_sub hl [1, 2, 0] rfl) hrun
    · replace hrun := if_f q1 hrun
      refine lv_aload_n hx hb dX5_flood_69 rfl (lv_at hl 0 rfl) ?_
      refine va_get (D := G.1) (ci := 3) (v := .ref h_t_queue) (C := RX5) (T := TX5) (N := 9) hx hb hts n_X5_flood_X5 hown hK hP 0 rfl rfl 1 (by decide) (hts _ u_X5_flood_6) (fun _ h9 => h9) rfl dX5_flood_70 ?_
      refine lv_iload_n hx hb dX5_flood_73 rfl (lv_at hl 2 rfl) ?_
      obtain ⟨t2, et2, hrun⟩ := bd_inv hrun
      refine k_calli (w2 := fun (_ : Unit) => [(h_t, .inr (3, [.ref h_t_energies, .ref h_t_queue, .ref h_t_reached, .int v_t_steps, g_t_rows, .int v_t_queued, .int v_t_leastAbove, g_t_rowAtRest, g_t_slipsToRest])), (h_t_energies, .inl (k_cI G, 4096, .inl w_t_energies)), (h_t_queue, .inl (k_cI G, 4096, .inl w_t_queue)), (h_t_reached, .inl (k_cZ G, 4096, .inl w_t_reached))]) C0 (k_runSN (rest := []) C0 (c_X11_at et2) (va_cnB 2 hts gX5_flood_X11_at_n39 rfl rfl rfl (k_nw hNW 16 nw_X5_flood_16) (hts _ u_X5_flood_18) e_X11_at.2 ⟨Nat.le_of_ble_eq_true rfl, Nat.le_of_ble_eq_true rfl⟩) (hts _ u_X5_flood_20) hP hD hS [2] rfl (by decide) rfl hl.1 rfl (Nat.le_of_ble_eq_true rfl) dX5_flood_74 ⟨Nat.le_of_ble_eq_true rfl, Nat.le_of_ble_eq_true rfl⟩) hP hD hS [2] [0, 1, 3] rfl rfl (by decide) (by decide) [0, 1, 3, 2] (by decide) (fun _ => rfl) (fun _ H locs hP hD hS => ?_)
      have hP : va_P G.1 vwCl [(h_t, .inr (3, [.ref h_t_energies, .ref h_t_queue, .ref h_t_reached, .int v_t_steps, g_t_rows, .int v_t_queued, .int v_t_leastAbove, g_t_rowAtRest, g_t_slipsToRest])), (h_t_energies, .inl (k_cI G, 4096, .inl w_t_energies)), (h_t_queue, .inl (k_cI G, 4096, .inl w_t_queue)), (h_t_reached, .inl (k_cZ G, 4096, .inl w_t_reached))] H := hP
      have hD : va_D A [(h_t, .inr (3, [.ref h_t_energies, .ref h_t_queue, .ref h_t_reached, .int v_t_steps, g_t_rows, .int v_t_queued, .int v_t_leastAbove, g_t_rowAtRest, g_t_slipsToRest])), (h_t_energies, .inl (k_cI G, 4096, .inl w_t_energies)), (h_t_queue, .inl (k_cI G, 4096, .inl w_t_queue)), (h_t_reached, .inl (k_cZ G, 4096, .inl w_t_reached))] := hD
      refine lv_iconst (v := 1) hx hb dX5_flood_77 (by decide) ?_
      refine lv_iload hx hb dX5_flood_78 (lv_at hl 3 rfl) ?_
      refine lv_ishl hx hb dX5_flood_80 ?_
      refine lv_ixor hx hb dX5_flood_81 ?_
      obtain ⟨n3, en, hrun⟩ := lt_inv hrun
      refine k_nmi en ?_
      clear en
      refine lv_istore (lv' := [(5, .int n3), (0, .ref h_t), (2, .int x2), (3, .int x3), (4, .int x4)]) hx hb dX5_flood_82 hl (by decide) rfl (fun ls hl => ?_)
      refine lv_aload_n hx hb dX5_flood_84 rfl (lv_at hl 1 rfl) ?_
      refine va_get (D := G.1) (ci := 3) (v := .ref h_t_energies) (C := RX5) (T := TX5) (N := 9) hx hb hts n_X5_flood_X5 hown hK hP 0 rfl rfl 0 (by decide) (hts _ u_X5_flood_7) (fun _ h9 => h9) rfl dX5_flood_85 ?_
      refine lv_iload hx hb dX5_flood_88 (lv_at hl 0 rfl) ?_
      obtain ⟨t4, et4, hrun⟩ := bd_inv hrun
      refine k_calli (w2 := fun (_ : Unit) => [(h_t, .inr (3, [.ref h_t_energies, .ref h_t_queue, .ref h_t_reached, .int v_t_steps, g_t_rows, .int v_t_queued, .int v_t_leastAbove, g_t_rowAtRest, g_t_slipsToRest])), (h_t_energies, .inl (k_cI G, 4096, .inl w_t_energies)), (h_t_queue, .inl (k_cI G, 4096, .inl w_t_queue)), (h_t_reached, .inl (k_cZ G, 4096, .inl w_t_reached))]) C0 (k_runSN (rest := []) C0 (c_X11_at et4) (va_cnB 2 hts gX5_flood_X11_at_n39 rfl rfl rfl (k_nw hNW 16 nw_X5_flood_16) (hts _ u_X5_flood_18) e_X11_at.2 ⟨Nat.le_of_ble_eq_true rfl, Nat.le_of_ble_eq_true rfl⟩) (hts _ u_X5_flood_20) hP hD hS [1] rfl (by decide) rfl hl.1 rfl (Nat.le_of_ble_eq_true rfl) dX5_flood_90 ⟨Nat.le_of_ble_eq_true rfl, Nat.le_of_ble_eq_true rfl⟩) hP hD hS [1] [0, 2, 3] rfl rfl (by decide) (by decide) [0, 3, 1, 2] (by decide) (fun _ => rfl) (fun _ H locs hP hD hS => ?_)
      have hP : va_P G.1 vwCl [(h_t, .inr (3, [.ref h_t_energies, .ref h_t_queue, .ref h_t_reached, .int v_t_steps, g_t_rows, .int v_t_queued, .int v_t_leastAbove, g_t_rowAtRest, g_t_slipsToRest])), (h_t_energies, .inl (k_cI G, 4096, .inl w_t_energies)), (h_t_queue, .inl (k_cI G, 4096, .inl w_t_queue)), (h_t_reached, .inl (k_cZ G, 4096, .inl w_t_reached))] H := hP
      have hD : va_D A [(h_t, .inr (3, [.ref h_t_energies, .ref h_t_queue, .ref h_t_reached, .int v_t_steps, g_t_rows, .int v_t_queued, .int v_t_leastAbove, g_t_rowAtRest, g_t_slipsToRest])), (h_t_energies, .inl (k_cI G, 4096, .inl w_t_energies)), (h_t_queue, .inl (k_cI G, 4096, .inl w_t_queue)), (h_t_reached, .inl (k_cZ G, 4096, .inl w_t_reached))] := hD
      refine lv_iload_n hx hb dX5_flood_93 rfl (lv_at hl 2 rfl) ?_
      refine lv_icmp_gt (tgt := 106) hx hb dX5_flood_94 (by decide) (fun q5 => ?_) (fun q5 => ?_)
      · replace hrun := if_t q5 hrun
        refine lv_aload_n hx hb dX5_flood_106 rfl (lv_at hl 1 rfl) ?_
        refine lv_aload_n hx hb dX5_flood_107 rfl (lv_at hl 1 rfl) ?_
        refine va_get (D := G.1) (ci := 3) (v := .int v_t_leastAbove) (C := RX5) (T := TX5) (N := 9) hx hb hts n_X5_flood_X5 hown hK hP 0 rfl rfl 6 (by decide) (hts _ u_X5_flood_4) (fun _ h9 => h9) rfl dX5_flood_108 ?_
        refine lv_aload_n hx hb dX5_flood_111 rfl (lv_at hl 1 rfl) ?_
        refine va_get (D := G.1) (ci := 3) (v := .ref h_t_energies) (C := RX5) (T := TX5) (N := 9) hx hb hts n_X5_flood_X5 hown hK hP 0 rfl rfl 0 (by decide) (hts _ u_X5_flood_7) (fun _ h9 => h9) rfl dX5_flood_112 ?_
        refine lv_iload hx hb dX5_flood_115 (lv_at hl 0 rfl) ?_
        obtain ⟨t6, et6, hrun⟩ := bd_inv hrun
        refine k_calli (w2 := fun (_ : Unit) => [(h_t, .inr (3, [.ref h_t_energies, .ref h_t_queue, .ref h_t_reached, .int v_t_steps, g_t_rows, .int v_t_queued, .int v_t_leastAbove, g_t_rowAtRest, g_t_slipsToRest])), (h_t_energies, .inl (k_cI G, 4096, .inl w_t_energies)), (h_t_queue, .inl (k_cI G, 4096, .inl w_t_queue)), (h_t_reached, .inl (k_cZ G, 4096, .inl w_t_reached))]) C0 (k_runSN (rest := [.int v_t_leastAbove, .ref h_t]) C0 (c_X11_at et6) (va_cnB 2 hts gX5_flood_X11_at_n39 rfl rfl rfl (k_nw hNW 16 nw_X5_flood_16) (hts _ u_X5_flood_18) e_X11_at.2 ⟨Nat.le_of_ble_eq_true rfl, Nat.le_of_ble_eq_true rfl⟩) (hts _ u_X5_flood_20) hP hD hS [1] rfl (by decide) rfl hl.1 rfl (Nat.le_of_ble_eq_true rfl) dX5_flood_117 ⟨Nat.le_of_ble_eq_true rfl, Nat.le_of_ble_eq_true rfl⟩) hP hD hS [1] [0, 2, 3] rfl rfl (by decide) (by decide) [0, 3, 1, 2] (by decide) (fun _ => rfl) (fun _ H locs hP hD hS => ?_)
        have hP : va_P G.1 vwCl [(h_t, .inr (3, [.ref h_t_energies, .ref h_t_queue, .ref h_t_reached, .int v_t_steps, g_t_rows, .int v_t_queued, .int v_t_leastAbove, g_t_rowAtRest, g_t_slipsToRest])), (h_t_energies, .inl (k_cI G, 4096, .inl w_t_energies)), (h_t_queue, .inl (k_cI G, 4096, .inl w_t_queue)), (h_t_reached, .inl (k_cZ G, 4096, .inl w_t_reached))] H := hP
        have hD : va_D A [(h_t, .inr (3, [.ref h_t_energies, .ref h_t_queue, .ref h_t_reached, .int v_t_steps, g_t_rows, .int v_t_queued, .int v_t_leastAbove, g_t_rowAtRest, g_t_slipsToRest])), (h_t_energies, .inl (k_cI G, 4096, .inl w_t_energies)), (h_t_queue, .inl (k_cI G, 4096, .inl w_t_queue)), (h_t_reached, .inl (k_cZ G, 4096, .inl w_t_reached))] := hD
        refine va_mmin hx hb (C0.2.2.2.2.2.2.1.trans hl.1.symm) hown (hts _ u_X5_flood_8) (hts _ u_X5_flood_9) (hts _ u_X5_flood_10) (hts _ u_X5_flood_11) (Nat.le_of_ble_eq_true rfl) (Nat.le_of_ble_eq_true rfl) (Nat.le_of_ble_eq_true rfl) (Nat.le_of_ble_eq_true rfl) dX5_flood_120 ?_
        obtain ⟨n7, en, hrun⟩ := lt_inv hrun
        refine k_nmi en ?_
        clear en
        refine va_put (D := G.1) (ci := 3) (v := .int n7) (ty := .int) (C := RX5) (T := TX5) (N := 9) hx hb hts n_X5_flood_X5 tyX5 tyX5_ok nmX5 hown hK hP hD hS 0 rfl rfl 6 (by decide) (hts _ u_X5_flood_4) (fun _ h9 => h9) rfl (by decide +kernel) rfl rfl (Nat.le_of_ble_eq_true rfl) dX5_flood_123 (fun H locs hP hD hS => ?_)
        have hP : va_P G.1 vwCl [(h_t, .inr (3, [.ref h_t_energies, .ref h_t_queue, .ref h_t_reached, .int v_t_steps, g_t_rows, .int v_t_queued, .int n7, g_t_rowAtRest, g_t_slipsToRest])), (h_t_energies, .inl (k_cI G, 4096, .inl w_t_energies)), (h_t_queue, .inl (k_cI G, 4096, .inl w_t_queue)), (h_t_reached, .inl (k_cZ G, 4096, .inl w_t_reached))] H := hP
        have hD : va_D A [(h_t, .inr (3, [.ref h_t_energies, .ref h_t_queue, .ref h_t_reached, .int v_t_steps, g_t_rows, .int v_t_queued, .int n7, g_t_rowAtRest, g_t_slipsToRest])), (h_t_energies, .inl (k_cI G, 4096, .inl w_t_energies)), (h_t_queue, .inl (k_cI G, 4096, .inl w_t_queue)), (h_t_reached, .inl (k_cZ G, 4096, .inl w_t_reached))] := hD
        exact t_X5_flood_126 C0 k42 hk42 (fun x2 x3 x4 v_t_leastAbove v_t_queued v_t_steps w_t_energies w_t_queue w_t_reached => f_X5_flood_60 k42 n x2 x3 x4 v_t_leastAbove v_t_queued v_t_steps w_t_energies w_t_queue w_t_reached) ih x2 x3 x4 n7 v_t_queued v_t_steps w_t_energies w_t_queue w_t_reached _ _ _ hP hD hS (lv_sub hl [1, 2, 3, 4] rfl) hrun
      · replace hrun := if_f q5 hrun
        refine lv_aload_n hx hb dX5_flood_97 rfl (lv_at hl 1 rfl) ?_
        refine lv_iload hx hb dX5_flood_98 (lv_at hl 0 rfl) ?_
        obtain ⟨t8, et8, hrun⟩ := bd_inv hrun
        refine k_callv (w2 := fun (_ : Unit) => [(h_t, .inr (3, [.ref h_t_energies, .ref h_t_queue, .ref h_t_reached, .int v_t_steps, g_t_rows, .int t8.1, .int v_t_leastAbove, g_t_rowAtRest, g_t_slipsToRest])), (h_t_energies, .inl (k_cI G, 4096, .inl w_t_energies)), (h_t_queue, .inl (k_cI G, 4096, .inl t8.2.1)), (h_t_reached, .inl (k_cZ G, 4096, .inl t8.2.2))]) C0 (k_runV (rest := []) C0 (c_X5_reach et8) (cwV 1 hts gX5_flood_X5_reach rfl rfl rfl e_X5_reach ⟨Nat.le_of_ble_eq_true rfl, Nat.le_of_ble_eq_true rfl⟩) hP hD hS [0, 2, 3] rfl (by decide) 0 (qc := (RX5, TX5, 9)) rfl rfl rfl rfl hl.1 rfl (Nat.le_of_ble_eq_true rfl) dX5_flood_100 ⟨Nat.le_of_ble_eq_true rfl, Nat.le_of_ble_eq_true rfl⟩) hP hD hS [0, 2, 3] [1] rfl rfl (by decide) (by decide) [1, 0, 2, 3] (by decide) (fun _ => rfl) (fun _ H locs hP hD hS => ?_)
        have hP : va_P G.1 vwCl [(h_t, .inr (3, [.ref h_t_energies, .ref h_t_queue, .ref h_t_reached, .int v_t_steps, g_t_rows, .int t8.1, .int v_t_leastAbove, g_t_rowAtRest, g_t_slipsToRest])), (h_t_energies, .inl (k_cI G, 4096, .inl w_t_energies)), (h_t_queue, .inl (k_cI G, 4096, .inl t8.2.1)), (h_t_reached, .inl (k_cZ G, 4096, .inl t8.2.2))] H := hP
        have hD : va_D A [(h_t, .inr (3, [.ref h_t_energies, .ref h_t_queue, .ref h_t_reached, .int v_t_steps, g_t_rows, .int t8.1, .int v_t_leastAbove, g_t_rowAtRest, g_t_slipsToRest])), (h_t_energies, .inl (k_cI G, 4096, .inl w_t_energies)), (h_t_queue, .inl (k_cI G, 4096, .inl t8.2.1)), (h_t_reached, .inl (k_cZ G, 4096, .inl t8.2.2))] := hD
        refine lv_goto (tgt := 126) hx hb dX5_flood_103 (by decide) ?_
        exact t_X5_flood_126 C0 k42 hk42 (fun x2 x3 x4 v_t_leastAbove v_t_queued v_t_steps w_t_energies w_t_queue w_t_reached => f_X5_flood_60 k42 n x2 x3 x4 v_t_leastAbove v_t_queued v_t_steps w_t_energies w_t_queue w_t_reached) ih x2 x3 x4 v_t_leastAbove t8.1 v_t_steps w_t_energies t8.2.1 t8.2.2 _ _ _ hP hD hS (lv_sub hl [1, 2, 3, 4] rfl) hrun
set_option maxHeartbeats 4000000 in
set_option maxRecDepth 100000 in
theorem t_X5_flood_42 {l : Launch} {G : k_G} {p : Program} {e : Env} {s : State} {m : MethodId} {args : Array Value} {below : List Frame} {meth : Method} {c : Code} {A : Nat → Prop} {h_t h_t_energies h_t_queue h_t_reached : Nat} {g_t_rows g_t_rowAtRest g_t_slipsToRest : Value} {out : Int32 × Int32 × Int32 × (Nat → Int32) × (Nat → Int32)} (C0 : k_C G p s m args meth c A cX5_flood RX5 wsX5_flood 6 (some .int) "flood") : ∀ (n : Nat) (x2 : Int32) (x3 : Int32) (v_t_leastAbove : Int32) (v_t_queued : Int32) (v_t_steps : Int32) (w_t_energies : Nat → Int32) (w_t_queue : Nat → Int32) (w_t_reached : Nat → Int32) (H : Heap) (locs : List Loc) (ls : Array Slot), va_P G.1 vwCl [(h_t, .inr (3, [.ref h_t_energies, .ref h_t_queue, .ref h_t_reached, .int v_t_steps, g_t_rows, .int v_t_queued, .int v_t_leastAbove, g_t_rowAtRest, g_t_slipsToRest])), (h_t_energies, .inl (k_cI G, 4096, .inl w_t_energies)), (h_t_queue, .inl (k_cI G, 4096, .inl w_t_queue)), (h_t_reached, .inl (k_cZ G, 4096, .inl w_t_reached))] H → va_D A [(h_t, .inr (3, [.ref h_t_energies, .ref h_t_queue, .ref h_t_reached, .int v_t_steps, g_t_rows, .int v_t_queued, .int v_t_leastAbove, g_t_rowAtRest, g_t_slipsToRest])), (h_t_energies, .inl (k_cI G, 4096, .inl w_t_energies)), (h_t_queue, .inl (k_cI G, 4096, .inl w_t_queue)), (h_t_reached, .inl (k_cZ G, 4096, .inl w_t_reached))] → va_S A s.heap H locs → lv_has ls 6 [(0, .ref h_t), (2, .int x2), (3, .int x3)] → f_X5_flood_42 n x2 x3 v_t_leastAbove v_t_queued v_t_steps w_t_energies w_t_queue w_t_reached = some out → W p l e rm_X5_flood s m args below meth c H locs 0 0 (MQ below (k_Qi G A out.1 (fun (_ : Unit) => [(h_t, .inr (3, [.ref h_t_energies, .ref h_t_queue, .ref h_t_reached, .int v_t_steps, g_t_rows, .int out.2.2.1, .int out.2.1, g_t_rowAtRest, g_t_slipsToRest])), (h_t_energies, .inl (k_cI G, 4096, .inl w_t_energies)), (h_t_queue, .inl (k_cI G, 4096, .inl out.2.2.2.1)), (h_t_reached, .inl (k_cZ G, 4096, .inl out.2.2.2.2))])) args s 0 0 A) (F0 m 42 ls []) := by
  have hx := C0.1
  have hb := C0.2.1
  have hts := C0.2.2.2.1
  have hown := C0.2.2.2.2.1
  have hK := C0.2.2.2.2.2.2.2.2.1.1
  have hNW := C0.2.2.2.2.2.2.2.2.1.2.1
  have hSF := C0.2.2.2.2.2.2.2.2.1.2.2
  intro n
  induction n with
  | zero =>
    intro x2 x3 v_t_leastAbove v_t_queued v_t_steps w_t_energies w_t_queue w_t_reached H locs ls hP hD hS hl hrun
    rw [f_X5_flood_42] at hrun
    cases hrun
  | succ n ih =>
    intro x2 x3 v_t_leastAbove v_t_queued v_t_steps w_t_energies w_t_queue w_t_reached H locs ls hP hD hS hl hrun
    rw [f_X5_flood_42] at hrun
    refine lv_iload_n hx hb dX5_flood_42 rfl (lv_at hl 2 rfl) ?_
    refine lv_aload_n hx hb dX5_flood_43 rfl (lv_at hl 0 rfl) ?_
    refine va_get (D := G.1) (ci := 3) (v := .int v_t_queued) (C := RX5) (T := TX5) (N := 9) hx hb hts n_X5_flood_X5 hown hK hP 0 rfl rfl 5 (by decide) (hts _ u_X5_flood_2) (fun _ h9 => h9) rfl dX5_flood_44 ?_
    refine lv_icmp_ge (tgt := 138) hx hb dX5_flood_47 (by decide) (fun q1 => ?_) (fun q1 => ?_)
    · replace hrun := if_t q1 hrun
      refine lv_aload_n hx hb dX5_flood_138 rfl (lv_at hl 0 rfl) ?_
      refine va_get (D := G.1) (ci := 3) (v := .int v_t_queued) (C := RX5) (T := TX5) (N := 9) hx hb hts n_X5_flood_X5 hown hK hP 0 rfl rfl 5 (by decide) (hts _ u_X5_flood_2) (fun _ h9 => h9) rfl dX5_flood_139 ?_
      obtain rfl := Option.some.inj hrun
      exact k_reti C0 hP hD hS () rfl rfl dX5_flood_142
    · replace hrun := if_f q1 hrun
      refine lv_iload_n hx hb dX5_flood_50 rfl (lv_at hl 2 rfl) ?_
      refine lv_sipush (v := 4096) hx hb dX5_flood_51 (by decide) ?_
      refine lv_icmp_ge (tgt := 138) hx hb dX5_flood_54 (by decide) (fun q2 => ?_) (fun q2 => ?_)
      · replace hrun := if_t q2 hrun
        refine lv_aload_n hx hb dX5_flood_138 rfl (lv_at hl 0 rfl) ?_
        refine va_get (D := G.1) (ci := 3) (v := .int v_t_queued) (C := RX5) (T := TX5) (N := 9) hx hb hts n_X5_flood_X5 hown hK hP 0 rfl rfl 5 (by decide) (hts _ u_X5_flood_2) (fun _ h9 => h9) rfl dX5_flood_139 ?_
        obtain rfl := Option.some.inj hrun
        exact k_reti C0 hP hD hS () rfl rfl dX5_flood_142
      · replace hrun := if_f q2 hrun
        refine lv_iconst (v := 0) hx hb dX5_flood_57 (by decide) ?_
        refine lv_istore (lv' := [(4, .int (0 : Int32)), (0, .ref h_t), (2, .int x2), (3, .int x3)]) hx hb dX5_flood_58 hl (by decide) rfl (fun ls hl => ?_)
        exact t_X5_flood_60 C0 (fun x2 x3 v_t_leastAbove v_t_queued v_t_steps w_t_energies w_t_queue w_t_reached => f_X5_flood_42 n x2 x3 v_t_leastAbove v_t_queued v_t_steps w_t_energies w_t_queue w_t_reached) ih kFU x2 x3 (0 : Int32) v_t_leastAbove v_t_queued v_t_steps w_t_energies w_t_queue w_t_reached _ _ _ hP hD hS (lv_sub hl [1, 2, 3, 0] rfl) hrun
set_option maxHeartbeats 4000000 in
set_option maxRecDepth 100000 in
theorem t_X5_flood_2 {l : Launch} {G : k_G} {p : Program} {e : Env} {s : State} {m : MethodId} {args : Array Value} {below : List Frame} {meth : Method} {c : Code} {A : Nat → Prop} {h_t h_t_energies h_t_queue h_t_reached : Nat} {g_t_rows g_t_rowAtRest g_t_slipsToRest : Value} {out : Int32 × Int32 × Int32 × (Nat → Int32) × (Nat → Int32)} (C0 : k_C G p s m args meth c A cX5_flood RX5 wsX5_flood 6 (some .int) "flood") : ∀ (n : Nat) (x1 : Int32) (x2 : Int32) (x3 : Int32) (v_t_leastAbove : Int32) (v_t_queued : Int32) (v_t_steps : Int32) (w_t_energies : Nat → Int32) (w_t_queue : Nat → Int32) (w_t_reached : Nat → Int32) (H : Heap) (locs : List Loc) (ls : Array Slot), va_P G.1 vwCl [(h_t, .inr (3, [.ref h_t_energies, .ref h_t_queue, .ref h_t_reached, .int v_t_steps, g_t_rows, .int v_t_queued, .int v_t_leastAbove, g_t_rowAtRest, g_t_slipsToRest])), (h_t_energies, .inl (k_cI G, 4096, .inl w_t_energies)), (h_t_queue, .inl (k_cI G, 4096, .inl w_t_queue)), (h_t_reached, .inl (k_cZ G, 4096, .inl w_t_reached))] H → va_D A [(h_t, .inr (3, [.ref h_t_energies, .ref h_t_queue, .ref h_t_reached, .int v_t_steps, g_t_rows, .int v_t_queued, .int v_t_leastAbove, g_t_rowAtRest, g_t_slipsToRest])), (h_t_energies, .inl (k_cI G, 4096, .inl w_t_energies)), (h_t_queue, .inl (k_cI G, 4096, .inl w_t_queue)), (h_t_reached, .inl (k_cZ G, 4096, .inl w_t_reached))] → va_S A s.heap H locs → lv_has ls 6 [(0, .ref h_t), (1, .int x1), (2, .int x2), (3, .int x3)] → f_X5_flood_2 n x1 x2 x3 v_t_leastAbove v_t_queued v_t_steps w_t_energies w_t_queue w_t_reached = some out → W p l e rm_X5_flood s m args below meth c H locs 0 0 (MQ below (k_Qi G A out.1 (fun (_ : Unit) => [(h_t, .inr (3, [.ref h_t_energies, .ref h_t_queue, .ref h_t_reached, .int v_t_steps, g_t_rows, .int out.2.2.1, .int out.2.1, g_t_rowAtRest, g_t_slipsToRest])), (h_t_energies, .inl (k_cI G, 4096, .inl w_t_energies)), (h_t_queue, .inl (k_cI G, 4096, .inl out.2.2.2.1)), (h_t_reached, .inl (k_cZ G, 4096, .inl out.2.2.2.2))])) args s 0 0 A) (F0 m 2 ls []) := by
  have hx := C0.1
  have hb := C0.2.1
  have hts := C0.2.2.2.1
  have hown := C0.2.2.2.2.1
  have hK := C0.2.2.2.2.2.2.2.2.1.1
  have hNW := C0.2.2.2.2.2.2.2.2.1.2.1
  have hSF := C0.2.2.2.2.2.2.2.2.1.2.2
  intro n
  induction n with
  | zero =>
    intro x1 x2 x3 v_t_leastAbove v_t_queued v_t_steps w_t_energies w_t_queue w_t_reached H locs ls hP hD hS hl hrun
    rw [f_X5_flood_2] at hrun
    cases hrun
  | succ n ih =>
    intro x1 x2 x3 v_t_leastAbove v_t_queued v_t_steps w_t_energies w_t_queue w_t_reached H locs ls hP hD hS hl hrun
    rw [f_X5_flood_2] at hrun
    refine lv_iload_n hx hb dX5_flood_2 rfl (lv_at hl 3 rfl) ?_
    refine lv_aload_n hx hb dX5_flood_3 rfl (lv_at hl 0 rfl) ?_
    refine va_get (D := G.1) (ci := 3) (v := .ref h_t_reached) (C := RX5) (T := TX5) (N := 9) hx hb hts n_X5_flood_X5 hown hK hP 0 rfl rfl 2 (by decide) (hts _ u_X5_flood_1) (fun _ h9 => h9) rfl dX5_flood_4 ?_
    refine va_alen (v := (4096 : Int32)) hx hb hK hP 3 3 rfl rfl rfl dX5_flood_7 ?_
    refine lv_icmp_ge (tgt := 24) hx hb dX5_flood_8 (by decide) (fun q1 => ?_) (fun q1 => ?_)
    · replace hrun := if_t q1 hrun
      refine lv_aload_n hx hb dX5_flood_24 rfl (lv_at hl 0 rfl) ?_
      refine lv_iconst (v := 0) hx hb dX5_flood_25 (by decide) ?_
      refine va_put (D := G.1) (ci := 3) (v := .int (0 : Int32)) (ty := .int) (C := RX5) (T := TX5) (N := 9) hx hb hts n_X5_flood_X5 tyX5 tyX5_ok nmX5 hown hK hP hD hS 0 rfl rfl 5 (by decide) (hts _ u_X5_flood_2) (fun _ h9 => h9) rfl (by decide +kernel) rfl rfl (Nat.le_of_ble_eq_true rfl) dX5_flood_26 (fun H locs hP hD hS => ?_)
      have hP : va_P G.1 vwCl [(h_t, .inr (3, [.ref h_t_energies, .ref h_t_queue, .ref h_t_reached, .int v_t_steps, g_t_rows, .int (0 : Int32), .int v_t_leastAbove, g_t_rowAtRest, g_t_slipsToRest])), (h_t_energies, .inl (k_cI G, 4096, .inl w_t_energies)), (h_t_queue, .inl (k_cI G, 4096, .inl w_t_queue)), (h_t_reached, .inl (k_cZ G, 4096, .inl w_t_reached))] H := hP
      have hD : va_D A [(h_t, .inr (3, [.ref h_t_energies, .ref h_t_queue, .ref h_t_reached, .int v_t_steps, g_t_rows, .int (0 : Int32), .int v_t_leastAbove, g_t_rowAtRest, g_t_slipsToRest])), (h_t_energies, .inl (k_cI G, 4096, .inl w_t_energies)), (h_t_queue, .inl (k_cI G, 4096, .inl w_t_queue)), (h_t_reached, .inl (k_cZ G, 4096, .inl w_t_reached))] := hD
      refine lv_aload_n hx hb dX5_flood_29 rfl (lv_at hl 0 rfl) ?_
      refine lv_ldc (v := 1000000) hx hb hown (hts _ u_X5_flood_3) dX5_flood_30 ?_
      refine va_put (D := G.1) (ci := 3) (v := .int (1000000 : Int32)) (ty := .int) (C := RX5) (T := TX5) (N := 9) hx hb hts n_X5_flood_X5 tyX5 tyX5_ok nmX5 hown hK hP hD hS 0 rfl rfl 6 (by decide) (hts _ u_X5_flood_4) (fun _ h9 => h9) rfl (by decide +kernel) rfl rfl (Nat.le_of_ble_eq_true rfl) dX5_flood_32 (fun H locs hP hD hS => ?_)
      have hP : va_P G.1 vwCl [(h_t, .inr (3, [.ref h_t_energies, .ref h_t_queue, .ref h_t_reached, .int v_t_steps, g_t_rows, .int (0 : Int32), .int (1000000 : Int32), g_t_rowAtRest, g_t_slipsToRest])), (h_t_energies, .inl (k_cI G, 4096, .inl w_t_energies)), (h_t_queue, .inl (k_cI G, 4096, .inl w_t_queue)), (h_t_reached, .inl (k_cZ G, 4096, .inl w_t_reached))] H := hP
      have hD : va_D A [(h_t, .inr (3, [.ref h_t_energies, .ref h_t_queue, .ref h_t_reached, .int v_t_steps, g_t_rows, .int (0 : Int32), .int (1000000 : Int32), g_t_rowAtRest, g_t_slipsToRest])), (h_t_energies, .inl (k_cI G, 4096, .inl w_t_energies)), (h_t_queue, .inl (k_cI G, 4096, .inl w_t_queue)), (h_t_reached, .inl (k_cZ G, 4096, .inl w_t_reached))] := hD
      refine lv_aload_n hx hb dX5_flood_35 rfl (lv_at hl 0 rfl) ?_
      refine lv_iload_n hx hb dX5_flood_36 rfl (lv_at hl 1 rfl) ?_
      obtain ⟨t2, et2, hrun⟩ := bd_inv hrun
      refine k_callv (w2 := fun (_ : Unit) => [(h_t, .inr (3, [.ref h_t_energies, .ref h_t_queue, .ref h_t_reached, .int v_t_steps, g_t_rows, .int t2.1, .int (1000000 : Int32), g_t_rowAtRest, g_t_slipsToRest])), (h_t_energies, .inl (k_cI G, 4096, .inl w_t_energies)), (h_t_queue, .inl (k_cI G, 4096, .inl t2.2.1)), (h_t_reached, .inl (k_cZ G, 4096, .inl t2.2.2))]) C0 (k_runV (rest := []) C0 (c_X5_reach et2) (cwV 1 hts gX5_flood_X5_reach rfl rfl rfl e_X5_reach ⟨Nat.le_of_ble_eq_true rfl, Nat.le_of_ble_eq_true rfl⟩) hP hD hS [0, 2, 3] rfl (by decide) 0 (qc := (RX5, TX5, 9)) rfl rfl rfl rfl hl.1 rfl (Nat.le_of_ble_eq_true rfl) dX5_flood_37 ⟨Nat.le_of_ble_eq_true rfl, Nat.le_of_ble_eq_true rfl⟩) hP hD hS [0, 2, 3] [1] rfl rfl (by decide) (by decide) [1, 0, 2, 3] (by decide) (fun _ => rfl) (fun _ H locs hP hD hS => ?_)
      have hP : va_P G.1 vwCl [(h_t, .inr (3, [.ref h_t_energies, .ref h_t_queue, .ref h_t_reached, .int v_t_steps, g_t_rows, .int t2.1, .int (1000000 : Int32), g_t_rowAtRest, g_t_slipsToRest])), (h_t_energies, .inl (k_cI G, 4096, .inl w_t_energies)), (h_t_queue, .inl (k_cI G, 4096, .inl t2.2.1)), (h_t_reached, .inl (k_cZ G, 4096, .inl t2.2.2))] H := hP
      have hD : va_D A [(h_t, .inr (3, [.ref h_t_energies, .ref h_t_queue, .ref h_t_reached, .int v_t_steps, g_t_rows, .int t2.1, .int (1000000 : Int32), g_t_rowAtRest, g_t_slipsToRest])), (h_t_energies, .inl (k_cI G, 4096, .inl w_t_energies)), (h_t_queue, .inl (k_cI G, 4096, .inl t2.2.1)), (h_t_reached, .inl (k_cZ G, 4096, .inl t2.2.2))] := hD
      refine lv_iconst (v := 0) hx hb dX5_flood_40 (by decide) ?_
      refine lv_istore_n (lv' := [(3, .int (0 : Int32)), (0, .ref h_t), (1, .int x1), (2, .int x2)]) hx hb dX5_flood_41 rfl hl (by decide) rfl (fun ls hl => ?_)
      exact t_X5_flood_42 C0 kFU x2 (0 : Int32) (1000000 : Int32) t2.1 v_t_steps w_t_energies t2.2.1 t2.2.2 _ _ _ hP hD hS (lv_sub hl [1, 3, 0] rfl) hrun
    · replace hrun := if_f q1 hrun
      refine lv_aload_n hx hb dX5_flood_11 rfl (lv_at hl 0 rfl) ?_
      refine va_get (D := G.1) (ci := 3) (v := .ref h_t_reached) (C := RX5) (T := TX5) (N := 9) hx hb hts n_X5_flood_X5 hown hK hP 0 rfl rfl 2 (by decide) (hts _ u_X5_flood_1) (fun _ h9 => h9) rfl dX5_flood_12 ?_
      refine lv_iload_n hx hb dX5_flood_15 rfl (lv_at hl 3 rfl) ?_
      refine lv_iconst (v := 0) hx hb dX5_flood_16 (by decide) ?_
      obtain ⟨gz3, hrun⟩ := gd_inv hrun
      obtain ⟨w4, ew, hrun⟩ := lt_inv hrun
      refine va_zast hx hb hK hP hD hS 3 3 rfl rfl gz3 dX5_flood_17 (fun H locs hP hD hS => ?_)
      have hP : va_P G.1 vwCl [(h_t, .inr (3, [.ref h_t_energies, .ref h_t_queue, .ref h_t_reached, .int v_t_steps, g_t_rows, .int v_t_queued, .int v_t_leastAbove, g_t_rowAtRest, g_t_slipsToRest])), (h_t_energies, .inl (k_cI G, 4096, .inl w_t_energies)), (h_t_queue, .inl (k_cI G, 4096, .inl w_t_queue)), (h_t_reached, .inl (k_cZ G, 4096, .inl w4))] H := by rw [ew]; exact hP
      have hD : va_D A [(h_t, .inr (3, [.ref h_t_energies, .ref h_t_queue, .ref h_t_reached, .int v_t_steps, g_t_rows, .int v_t_queued, .int v_t_leastAbove, g_t_rowAtRest, g_t_slipsToRest])), (h_t_energies, .inl (k_cI G, 4096, .inl w_t_energies)), (h_t_queue, .inl (k_cI G, 4096, .inl w_t_queue)), (h_t_reached, .inl (k_cZ G, 4096, .inl w4))] := by rw [ew]; exact hD
      clear ew
      refine lv_iinc (v := x3 + 1) (lv' := [(3, .int (x3 + 1)), (0, .ref h_t), (1, .int x1), (2, .int x2)]) hx hb dX5_flood_18 hl (k := 3) rfl rfl (by decide) rfl (fun ls hl => ?_)
      refine lv_goto (tgt := 2) hx hb dX5_flood_21 (by decide) ?_
      exact ih x1 x2 (x3 + 1) v_t_leastAbove v_t_queued v_t_steps w_t_energies w_t_queue w4 _ _ _ hP hD hS (lv_sub hl [1, 2, 3, 0] rfl) hrun
set_option maxHeartbeats 4000000 in
set_option maxRecDepth 100000 in
theorem c_X5_flood {l : Launch} {G : k_G} {h_t h_t_energies h_t_queue h_t_reached : Nat} {g_t_rows g_t_rowAtRest g_t_slipsToRest : Value} {sz : Nat} {p1 : Int32} {p2 : Int32} {v_t_leastAbove : Int32} {v_t_queued : Int32} {v_t_steps : Int32} {w_t_energies : Nat → Int32} {w_t_queue : Nat → Int32} {w_t_reached : Nat → Int32} {out : Int32 × Int32 × Int32 × (Nat → Int32) × (Nat → Int32)} (hrun : f_X5_flood p1 p2 v_t_leastAbove v_t_queued v_t_steps w_t_energies w_t_queue w_t_reached = some out) : k_Ci l G yX5_flood wsX5_flood rm_X5_flood [.ref h_t, .int p1, .int p2] [(h_t, .inr (3, [.ref h_t_energies, .ref h_t_queue, .ref h_t_reached, .int v_t_steps, g_t_rows, .int v_t_queued, .int v_t_leastAbove, g_t_rowAtRest, g_t_slipsToRest])), (h_t_energies, .inl (k_cI G, 4096, .inl w_t_energies)), (h_t_queue, .inl (k_cI G, 4096, .inl w_t_queue)), (h_t_reached, .inl (k_cZ G, 4096, .inl w_t_reached))] sz out.1 (fun (_ : Unit) => [(h_t, .inr (3, [.ref h_t_energies, .ref h_t_queue, .ref h_t_reached, .int v_t_steps, g_t_rows, .int out.2.2.1, .int out.2.1, g_t_rowAtRest, g_t_slipsToRest])), (h_t_energies, .inl (k_cI G, 4096, .inl w_t_energies)), (h_t_queue, .inl (k_cI G, 4096, .inl out.2.2.2.1)), (h_t_reached, .inl (k_cZ G, 4096, .inl out.2.2.2.2))]) 0 0 := by
  refine k_of (cc := cX5_flood) (nL := 6) (ret := some .int) (own := RX5) (nm := "flood") (by decide) rfl rfl rfl rfl ?_
  intro p e s m args below meth c ls hsz C0 hP hD hS hl
  have hl : lv_has ls 6 [(0, .ref h_t), (1, .int p1), (2, .int p2)] := hl
  generalize hH : s.heap = H at hP
  have hS : va_S (va_A [(h_t, .inr (3, [.ref h_t_energies, .ref h_t_queue, .ref h_t_reached, .int v_t_steps, g_t_rows, .int v_t_queued, .int v_t_leastAbove, g_t_rowAtRest, g_t_slipsToRest])), (h_t_energies, .inl (k_cI G, 4096, .inl w_t_energies)), (h_t_queue, .inl (k_cI G, 4096, .inl w_t_queue)), (h_t_reached, .inl (k_cZ G, 4096, .inl w_t_reached))] sz) s.heap H [] := by rw [← hH]; exact hS
  clear hH
  generalize va_A [(h_t, .inr (3, [.ref h_t_energies, .ref h_t_queue, .ref h_t_reached, .int v_t_steps, g_t_rows, .int v_t_queued, .int v_t_leastAbove, g_t_rowAtRest, g_t_slipsToRest])), (h_t_energies, .inl (k_cI G, 4096, .inl w_t_energies)), (h_t_queue, .inl (k_cI G, 4096, .inl w_t_queue)), (h_t_reached, .inl (k_cZ G, 4096, .inl w_t_reached))] sz = A at C0 hD hS ⊢
  have hx := C0.1
  have hb := C0.2.1
  have hts := C0.2.2.2.1
  have hown := C0.2.2.2.2.1
  have hK := C0.2.2.2.2.2.2.2.2.1.1
  have hNW := C0.2.2.2.2.2.2.2.2.1.2.1
  have hSF := C0.2.2.2.2.2.2.2.2.1.2.2
  rw [f_X5_flood] at hrun
  refine lv_iconst (v := 0) hx hb dX5_flood_0 (by decide) ?_
  refine lv_istore_n (lv' := [(3, .int (0 : Int32)), (0, .ref h_t), (1, .int p1), (2, .int p2)]) hx hb dX5_flood_1 rfl hl (by decide) rfl (fun ls hl => ?_)
  exact t_X5_flood_2 C0 kFU p1 p2 (0 : Int32) v_t_leastAbove v_t_queued v_t_steps w_t_energies w_t_queue w_t_reached _ _ _ hP hD hS (lv_sub hl [1, 2, 3, 0] rfl) hrun
theorem u_X5_lowestPass_1 : (Cond.fieldLink RX5 11 "ClosePacking$Landscape" "energies" "[I") ∈ wsX5_lowestPass := List.mem_of_getElem? (i := 1) (by decide +kernel)
theorem u_X5_lowestPass_2 : (Cond.methodLink RX5 63 Lib.Math.max.name) ∈ wsX5_lowestPass := List.mem_of_getElem? (i := 2) (by decide +kernel)
theorem u_X5_lowestPass_3 : (Cond.static Lib.Math.max.name) ∈ wsX5_lowestPass := List.mem_of_getElem? (i := 3) (by decide +kernel)
theorem u_X5_lowestPass_4 : (Cond.initialized "java/lang/Math") ∈ wsX5_lowestPass := List.mem_of_getElem? (i := 4) (by decide +kernel)
theorem u_X5_lowestPass_5 : (Cond.code Lib.Math.max.name Lib.Math.max.code 2 (some .int)) ∈ wsX5_lowestPass := List.mem_of_getElem? (i := 5) (by decide +kernel)
theorem u_X5_lowestPass_6 : (Cond.fieldLink RX5 18 "ClosePacking$Landscape" "reached" "[Z") ∈ wsX5_lowestPass := List.mem_of_getElem? (i := 6) (by decide +kernel)
theorem u_X5_lowestPass_7 : (Cond.fieldLink RX5 56 "ClosePacking$Landscape" "leastAbove" "I") ∈ wsX5_lowestPass := List.mem_of_getElem? (i := 7) (by decide +kernel)
theorem u_X5_lowestPass_8 : (Cond.static yX11_at) ∈ wsX5_lowestPass := List.mem_of_getElem? (i := 8) (by decide +kernel)
theorem u_X5_lowestPass_9 : (Cond.initialized RX11) ∈ wsX5_lowestPass := List.mem_of_getElem? (i := 9) (by decide +kernel)
theorem n_X5_lowestPass_X5 : ∀ w ∈ u_ws RX5 TX5 9, w ∈ wsX5_lowestPass := by decide +kernel
theorem nw_X5_lowestPass_16 : k_nest[16]? = some (.methodLinkNest RX5 39 yX11_at "ClosePacking") := rfl
abbrev rm_X5_lowestPass : Room := { frames := 3, cells := 0, slots := 0, locals := 68 }
theorem e_X5_lowestPass : yX5_lowestPass.cls = RX5 ∧ yX5_lowestPass.cls ≠ "java/lang/invoke/MethodHandle" ∧ yX5_lowestPass.cls ≠ "java/lang/invoke/VarHandle" ∧ (parseMethodDescriptor yX5_lowestPass.desc).map (fun d => d.parameters.length) = some 2 := by decide +kernel
set_option maxHeartbeats 4000000 in
set_option maxRecDepth 100000 in
theorem t_X5_lowestPass_62 {l : Launch} {G : k_G} {p : Program} {e : Env} {s : State} {m : MethodId} {args : Array Value} {below : List Frame} {meth : Method} {c : Code} {A : Nat → Prop} {h_t h_t_energies h_t_queue h_t_reached : Nat} {g_t_rows g_t_rowAtRest g_t_slipsToRest : Value} {out : Int32 × Int32 × Int32 × (Nat → Int32) × (Nat → Int32)} (C0 : k_C G p s m args meth c A cX5_lowestPass RX5 wsX5_lowestPass 5 (some .int) "lowestPass") (k23 : Int32 → Int32 → Int32 → Int32 → Int32 → Int32 → Int32 → (Nat → Int32) → (Nat → Int32) → (Nat → Int32) → Option (Int32 × Int32 × Int32 × (Nat → Int32) × (Nat → Int32))) (hk23 : ∀ (x1 : Int32) (x2 : Int32) (x3 : Int32) (x4 : Int32) (v_t_leastAbove : Int32) (v_t_queued : Int32) (v_t_steps : Int32) (w_t_energies : Nat → Int32) (w_t_queue : Nat → Int32) (w_t_reached : Nat → Int32) (H : Heap) (locs : List Loc) (ls : Array Slot), va_P G.1 vwCl [(h_t, .inr (3, [.ref h_t_energies, .ref h_t_queue, .ref h_t_reached, .int v_t_steps, g_t_rows, .int v_t_queued, .int v_t_leastAbove, g_t_rowAtRest, g_t_slipsToRest])), (h_t_energies, .inl (k_cI G, 4096, .inl w_t_energies)), (h_t_queue, .inl (k_cI G, 4096, .inl w_t_queue)), (h_t_reached, .inl (k_cZ G, 4096, .inl w_t_reached))] H → va_D A [(h_t, .inr (3, [.ref h_t_energies, .ref h_t_queue, .ref h_t_reached, .int v_t_steps, g_t_rows, .int v_t_queued, .int v_t_leastAbove, g_t_rowAtRest, g_t_slipsToRest])), (h_t_energies, .inl (k_cI G, 4096, .inl w_t_energies)), (h_t_queue, .inl (k_cI G, 4096, .inl w_t_queue)), (h_t_reached, .inl (k_cZ G, 4096, .inl w_t_reached))] → va_S A s.heap H locs → lv_has ls 5 [(0, .ref h_t), (1, .int x1), (2, .int x2), (3, .int x3), (4, .int x4)] → k23 x1 x2 x3 x4 v_t_leastAbove v_t_queued v_t_steps w_t_energies w_t_queue w_t_reached = some out → W p l e rm_X5_lowestPass s m args below meth c H locs 0 0 (MQ below (k_Qi G A out.1 (fun (_ : Unit) => [(h_t, .inr (3, [.ref h_t_energies, .ref h_t_queue, .ref h_t_reached, .int v_t_steps, g_t_rows, .int out.2.2.1, .int out.2.1, g_t_rowAtRest, g_t_slipsToRest])), (h_t_energies, .inl (k_cI G, 4096, .inl w_t_energies)), (h_t_queue, .inl (k_cI G, 4096, .inl out.2.2.2.1)), (h_t_reached, .inl (k_cZ G, 4096, .inl out.2.2.2.2))])) args s 0 0 A) (F0 m 23 ls [])) : ∀ (x1 : Int32) (x2 : Int32) (x4 : Int32) (v_t_leastAbove : Int32) (v_t_queued : Int32) (v_t_steps : Int32) (w_t_energies : Nat → Int32) (w_t_queue : Nat → Int32) (w_t_reached : Nat → Int32) (H : Heap) (locs : List Loc) (ls : Array Slot), va_P G.1 vwCl [(h_t, .inr (3, [.ref h_t_energies, .ref h_t_queue, .ref h_t_reached, .int v_t_steps, g_t_rows, .int v_t_queued, .int v_t_leastAbove, g_t_rowAtRest, g_t_slipsToRest])), (h_t_energies, .inl (k_cI G, 4096, .inl w_t_energies)), (h_t_queue, .inl (k_cI G, 4096, .inl w_t_queue)), (h_t_reached, .inl (k_cZ G, 4096, .inl w_t_reached))] H → va_D A [(h_t, .inr (3, [.ref h_t_energies, .ref h_t_queue, .ref h_t_reached, .int v_t_steps, g_t_rows, .int v_t_queued, .int v_t_leastAbove, g_t_rowAtRest, g_t_slipsToRest])), (h_t_energies, .inl (k_cI G, 4096, .inl w_t_energies)), (h_t_queue, .inl (k_cI G, 4096, .inl w_t_queue)), (h_t_reached, .inl (k_cZ G, 4096, .inl w_t_reached))] → va_S A s.heap H locs → lv_has ls 5 [(0, .ref h_t), (1, .int x1), (2, .int x2), (4, .int x4)] → f_X5_lowestPass_62 k23 x1 x2 x4 v_t_leastAbove v_t_queued v_t_steps w_t_energies w_t_queue w_t_reached = some out → W p l e rm_X5_lowestPass s m args below meth c H locs 0 0 (MQ below (k_Qi G A out.1 (fun (_ : Unit) => [(h_t, .inr (3, [.ref h_t_energies, .ref h_t_queue, .ref h_t_reached, .int v_t_steps, g_t_rows, .int out.2.2.1, .int out.2.1, g_t_rowAtRest, g_t_slipsToRest])), (h_t_energies, .inl (k_cI G, 4096, .inl w_t_energies)), (h_t_queue, .inl (k_cI G, 4096, .inl out.2.2.2.1)), (h_t_reached, .inl (k_cZ G, 4096, .inl out.2.2.2.2))])) args s 0 0 A) (F0 m 62 ls []) := by
  have hx := C0.1
  have hb := C0.2.1
  have hts := C0.2.2.2.1
  have hown := C0.2.2.2.2.1
  have hK := C0.2.2.2.2.2.2.2.2.1.1
  have hNW := C0.2.2.2.2.2.2.2.2.1.2.1
  have hSF := C0.2.2.2.2.2.2.2.2.1.2.2
  intro x1 x2 x4 v_t_leastAbove v_t_queued v_t_steps w_t_energies w_t_queue w_t_reached H locs ls hP hD hS hl hrun
  rw [f_X5_lowestPass_62] at hrun
  refine lv_aload_n hx hb dX5_lowestPass_62 rfl (lv_at hl 0 rfl) ?_
  refine va_get (D := G.1) (ci := 3) (v := .int v_t_leastAbove) (C := RX5) (T := TX5) (N := 9) hx hb hts n_X5_lowestPass_X5 hown hK hP 0 rfl rfl 6 (by decide) (hts _ u_X5_lowestPass_7) (fun _ h9 => h9) rfl dX5_lowestPass_63 ?_
  refine lv_istore_n (lv' := [(3, .int v_t_leastAbove), (0, .ref h_t), (1, .int x1), (2, .int x2), (4, .int x4)]) hx hb dX5_lowestPass_66 rfl hl (by decide) rfl (fun ls hl => ?_)
  refine lv_iinc (v := x4 + 1) (lv' := [(4, .int (x4 + 1)), (3, .int v_t_leastAbove), (0, .ref h_t), (1, .int x1), (2, .int x2)]) hx hb dX5_lowestPass_67 hl (k := 4) rfl rfl (by decide) rfl (fun ls hl => ?_)
  refine lv_goto (tgt := 23) hx hb dX5_lowestPass_70 (by decide) ?_
  exact hk23 x1 x2 v_t_leastAbove (x4 + 1) v_t_leastAbove v_t_queued v_t_steps w_t_energies w_t_queue w_t_reached _ _ _ hP hD hS (lv_sub hl [2, 3, 4, 1, 0] rfl) hrun
set_option maxHeartbeats 4000000 in
set_option maxRecDepth 100000 in
theorem t_X5_lowestPass_23 {l : Launch} {G : k_G} {p : Program} {e : Env} {s : State} {m : MethodId} {args : Array Value} {below : List Frame} {meth : Method} {c : Code} {A : Nat → Prop} {h_t h_t_energies h_t_queue h_t_reached : Nat} {g_t_rows g_t_rowAtRest g_t_slipsToRest : Value} {out : Int32 × Int32 × Int32 × (Nat → Int32) × (Nat → Int32)} (C0 : k_C G p s m args meth c A cX5_lowestPass RX5 wsX5_lowestPass 5 (some .int) "lowestPass") : ∀ (n : Nat) (x1 : Int32) (x2 : Int32) (x3 : Int32) (x4 : Int32) (v_t_leastAbove : Int32) (v_t_queued : Int32) (v_t_steps : Int32) (w_t_energies : Nat → Int32) (w_t_queue : Nat → Int32) (w_t_reached : Nat → Int32) (H : Heap) (locs : List Loc) (ls : Array Slot), va_P G.1 vwCl [(h_t, .inr (3, [.ref h_t_energies, .ref h_t_queue, .ref h_t_reached, .int v_t_steps, g_t_rows, .int v_t_queued, .int v_t_leastAbove, g_t_rowAtRest, g_t_slipsToRest])), (h_t_energies, .inl (k_cI G, 4096, .inl w_t_energies)), (h_t_queue, .inl (k_cI G, 4096, .inl w_t_queue)), (h_t_reached, .inl (k_cZ G, 4096, .inl w_t_reached))] H → va_D A [(h_t, .inr (3, [.ref h_t_energies, .ref h_t_queue, .ref h_t_reached, .int v_t_steps, g_t_rows, .int v_t_queued, .int v_t_leastAbove, g_t_rowAtRest, g_t_slipsToRest])), (h_t_energies, .inl (k_cI G, 4096, .inl w_t_energies)), (h_t_queue, .inl (k_cI G, 4096, .inl w_t_queue)), (h_t_reached, .inl (k_cZ G, 4096, .inl w_t_reached))] → va_S A s.heap H locs → lv_has ls 5 [(0, .ref h_t), (1, .int x1), (2, .int x2), (3, .int x3), (4, .int x4)] → f_X5_lowestPass_23 n x1 x2 x3 x4 v_t_leastAbove v_t_queued v_t_steps w_t_energies w_t_queue w_t_reached = some out → W p l e rm_X5_lowestPass s m args below meth c H locs 0 0 (MQ below (k_Qi G A out.1 (fun (_ : Unit) => [(h_t, .inr (3, [.ref h_t_energies, .ref h_t_queue, .ref h_t_reached, .int v_t_steps, g_t_rows, .int out.2.2.1, .int out.2.1, g_t_rowAtRest, g_t_slipsToRest])), (h_t_energies, .inl (k_cI G, 4096, .inl w_t_energies)), (h_t_queue, .inl (k_cI G, 4096, .inl out.2.2.2.1)), (h_t_reached, .inl (k_cZ G, 4096, .inl out.2.2.2.2))])) args s 0 0 A) (F0 m 23 ls []) := by
  have hx := C0.1
  have hb := C0.2.1
  have hts := C0.2.2.2.1
  have hown := C0.2.2.2.2.1
  have hK := C0.2.2.2.2.2.2.2.2.1.1
  have hNW := C0.2.2.2.2.2.2.2.2.1.2.1
  have hSF := C0.2.2.2.2.2.2.2.2.1.2.2
  intro n
  induction n with
  | zero =>
    intro x1 x2 x3 x4 v_t_leastAbove v_t_queued v_t_steps w_t_energies w_t_queue w_t_reached H locs ls hP hD hS hl hrun
    rw [f_X5_lowestPass_23] at hrun
    cases hrun
  | succ n ih =>
    intro x1 x2 x3 x4 v_t_leastAbove v_t_queued v_t_steps w_t_energies w_t_queue w_t_reached H locs ls hP hD hS hl hrun
    rw [f_X5_lowestPass_23] at hrun
    refine lv_iload hx hb dX5_lowestPass_23 (lv_at hl 4 rfl) ?_
    refine lv_sipush (v := 4096) hx hb dX5_lowestPass_25 (by decide) ?_
    refine lv_icmp_ge (tgt := 73) hx hb dX5_lowestPass_28 (by decide) (fun q1 => ?_) (fun q1 => ?_)
    · replace hrun := if_t q1 hrun
      refine lv_iload_n hx hb dX5_lowestPass_73 rfl (lv_at hl 3 rfl) ?_
      obtain rfl := Option.some.inj hrun
      exact k_reti C0 hP hD hS () rfl rfl dX5_lowestPass_74
    · replace hrun := if_f q1 hrun
      refine lv_aload_n hx hb dX5_lowestPass_31 rfl (lv_at hl 0 rfl) ?_
      refine lv_iload_n hx hb dX5_lowestPass_32 rfl (lv_at hl 1 rfl) ?_
      refine lv_iload_n hx hb dX5_lowestPass_33 rfl (lv_at hl 3 rfl) ?_
      obtain ⟨t2, et2, hrun⟩ := bd_inv hrun
      refine k_calli (w2 := fun (_ : Unit) => [(h_t, .inr (3, [.ref h_t_energies, .ref h_t_queue, .ref h_t_reached, .int v_t_steps, g_t_rows, .int t2.2.2.1, .int t2.2.1, g_t_rowAtRest, g_t_slipsToRest])), (h_t_energies, .inl (k_cI G, 4096, .inl w_t_energies)), (h_t_queue, .inl (k_cI G, 4096, .inl t2.2.2.2.1)), (h_t_reached, .inl (k_cZ G, 4096, .inl t2.2.2.2.2))]) C0 (k_runV (rest := []) C0 (c_X5_flood et2) (cwV 2 hts gX5_lowestPass_X5_flood rfl rfl rfl e_X5_flood ⟨Nat.le_of_ble_eq_true rfl, Nat.le_of_ble_eq_true rfl⟩) hP hD hS [0, 1, 2, 3] rfl (by decide) 0 (qc := (RX5, TX5, 9)) rfl rfl rfl rfl hl.1 rfl (Nat.le_of_ble_eq_true rfl) dX5_lowestPass_34 ⟨Nat.le_of_ble_eq_true rfl, Nat.le_of_ble_eq_true rfl⟩) hP hD hS [0, 1, 2, 3] [] rfl rfl (by decide) (by decide) [0, 1, 2, 3] (by decide) (fun _ => rfl) (fun _ H locs hP hD hS => ?_)
      have hP : va_P G.1 vwCl [(h_t, .inr (3, [.ref h_t_energies, .ref h_t_queue, .ref h_t_reached, .int v_t_steps, g_t_rows, .int t2.2.2.1, .int t2.2.1, g_t_rowAtRest, g_t_slipsToRest])), (h_t_energies, .inl (k_cI G, 4096, .inl w_t_energies)), (h_t_queue, .inl (k_cI G, 4096, .inl t2.2.2.2.1)), (h_t_reached, .inl (k_cZ G, 4096, .inl t2.2.2.2.2))] H := hP
      have hD : va_D A [(h_t, .inr (3, [.ref h_t_energies, .ref h_t_queue, .ref h_t_reached, .int v_t_steps, g_t_rows, .int t2.2.2.1, .int t2.2.1, g_t_rowAtRest, g_t_slipsToRest])), (h_t_energies, .inl (k_cI G, 4096, .inl w_t_energies)), (h_t_queue, .inl (k_cI G, 4096, .inl t2.2.2.2.1)), (h_t_reached, .inl (k_cZ G, 4096, .inl t2.2.2.2.2))] := hD
      refine lv_pop hx hb dX5_lowestPass_37 rfl ?_
      refine lv_iload_n hx hb dX5_lowestPass_38 rfl (lv_at hl 2 rfl) ?_
      refine lv_if_lt (tgt := 62) hx hb dX5_lowestPass_39 (by decide) (fun q3 => ?_) (fun q3 => ?_)
      · replace hrun := if_t q3 hrun
        exact t_X5_lowestPass_62 C0 (fun x1 x2 x3 x4 v_t_leastAbove v_t_queued v_t_steps w_t_energies w_t_queue w_t_reached => f_X5_lowestPass_23 n x1 x2 x3 x4 v_t_leastAbove v_t_queued v_t_steps w_t_energies w_t_queue w_t_reached) ih x1 x2 x4 t2.2.1 t2.2.2.1 v_t_steps w_t_energies t2.2.2.2.1 t2.2.2.2.2 _ _ _ hP hD hS (lv_sub hl [0, 1, 2, 4] rfl) hrun
      · replace hrun := if_f q3 hrun
        refine lv_iload_n hx hb dX5_lowestPass_42 rfl (lv_at hl 2 rfl) ?_
        refine lv_aload_n hx hb dX5_lowestPass_43 rfl (lv_at hl 0 rfl) ?_
        refine va_get (D := G.1) (ci := 3) (v := .ref h_t_reached) (C := RX5) (T := TX5) (N := 9) hx hb hts n_X5_lowestPass_X5 hown hK hP 0 rfl rfl 2 (by decide) (hts _ u_X5_lowestPass_6) (fun _ h9 => h9) rfl dX5_lowestPass_44 ?_
        refine va_alen (v := (4096 : Int32)) hx hb hK hP 3 3 rfl rfl rfl dX5_lowestPass_47 ?_
        refine lv_icmp_ge (tgt := 62) hx hb dX5_lowestPass_48 (by decide) (fun q4 => ?_) (fun q4 => ?_)
        · replace hrun := if_t q4 hrun
          exact t_X5_lowestPass_62 C0 (fun x1 x2 x3 x4 v_t_leastAbove v_t_queued v_t_steps w_t_energies w_t_queue w_t_reached => f_X5_lowestPass_23 n x1 x2 x3 x4 v_t_leastAbove v_t_queued v_t_steps w_t_energies w_t_queue w_t_reached) ih x1 x2 x4 t2.2.1 t2.2.2.1 v_t_steps w_t_energies t2.2.2.2.1 t2.2.2.2.2 _ _ _ hP hD hS (lv_sub hl [0, 1, 2, 4] rfl) hrun
        · replace hrun := if_f q4 hrun
          refine lv_aload_n hx hb dX5_lowestPass_51 rfl (lv_at hl 0 rfl) ?_
          refine va_get (D := G.1) (ci := 3) (v := .ref h_t_reached) (C := RX5) (T := TX5) (N := 9) hx hb hts n_X5_lowestPass_X5 hown hK hP 0 rfl rfl 2 (by decide) (hts _ u_X5_lowestPass_6) (fun _ h9 => h9) rfl dX5_lowestPass_52 ?_
          refine lv_iload_n hx hb dX5_lowestPass_55 rfl (lv_at hl 2 rfl) ?_
          obtain ⟨gz5, hrun⟩ := gd_inv hrun
          refine va_zald hx hb hK hP 3 3 rfl rfl gz5 dX5_lowestPass_56 ?_
          refine lv_if_eq (tgt := 62) hx hb dX5_lowestPass_57 (by decide) (fun q6 => ?_) (fun q6 => ?_)
          · replace hrun := if_t q6 hrun
            exact t_X5_lowestPass_62 C0 (fun x1 x2 x3 x4 v_t_leastAbove v_t_queued v_t_steps w_t_energies w_t_queue w_t_reached => f_X5_lowestPass_23 n x1 x2 x3 x4 v_t_leastAbove v_t_queued v_t_steps w_t_energies w_t_queue w_t_reached) ih x1 x2 x4 t2.2.1 t2.2.2.1 v_t_steps w_t_energies t2.2.2.2.1 t2.2.2.2.2 _ _ _ hP hD hS (lv_sub hl [0, 1, 2, 4] rfl) hrun
          · replace hrun := if_f q6 hrun
            refine lv_iload_n hx hb dX5_lowestPass_60 rfl (lv_at hl 3 rfl) ?_
            obtain rfl := Option.some.inj hrun
            exact k_reti C0 hP hD hS () rfl rfl dX5_lowestPass_61
set_option maxHeartbeats 4000000 in
set_option maxRecDepth 100000 in
theorem c_X5_lowestPass {l : Launch} {G : k_G} {h_t h_t_energies h_t_queue h_t_reached : Nat} {g_t_rows g_t_rowAtRest g_t_slipsToRest : Value} {sz : Nat} {p1 : Int32} {p2 : Int32} {v_t_leastAbove : Int32} {v_t_queued : Int32} {v_t_steps : Int32} {w_t_energies : Nat → Int32} {w_t_queue : Nat → Int32} {w_t_reached : Nat → Int32} {out : Int32 × Int32 × Int32 × (Nat → Int32) × (Nat → Int32)} (hrun : f_X5_lowestPass p1 p2 v_t_leastAbove v_t_queued v_t_steps w_t_energies w_t_queue w_t_reached = some out) : k_Ci l G yX5_lowestPass wsX5_lowestPass rm_X5_lowestPass [.ref h_t, .int p1, .int p2] [(h_t, .inr (3, [.ref h_t_energies, .ref h_t_queue, .ref h_t_reached, .int v_t_steps, g_t_rows, .int v_t_queued, .int v_t_leastAbove, g_t_rowAtRest, g_t_slipsToRest])), (h_t_energies, .inl (k_cI G, 4096, .inl w_t_energies)), (h_t_queue, .inl (k_cI G, 4096, .inl w_t_queue)), (h_t_reached, .inl (k_cZ G, 4096, .inl w_t_reached))] sz out.1 (fun (_ : Unit) => [(h_t, .inr (3, [.ref h_t_energies, .ref h_t_queue, .ref h_t_reached, .int v_t_steps, g_t_rows, .int out.2.2.1, .int out.2.1, g_t_rowAtRest, g_t_slipsToRest])), (h_t_energies, .inl (k_cI G, 4096, .inl w_t_energies)), (h_t_queue, .inl (k_cI G, 4096, .inl out.2.2.2.1)), (h_t_reached, .inl (k_cZ G, 4096, .inl out.2.2.2.2))]) 0 0 := by
  refine k_of (cc := cX5_lowestPass) (nL := 5) (ret := some .int) (own := RX5) (nm := "lowestPass") (by decide) rfl rfl rfl rfl ?_
  intro p e s m args below meth c ls hsz C0 hP hD hS hl
  have hl : lv_has ls 5 [(0, .ref h_t), (1, .int p1), (2, .int p2)] := hl
  generalize hH : s.heap = H at hP
  have hS : va_S (va_A [(h_t, .inr (3, [.ref h_t_energies, .ref h_t_queue, .ref h_t_reached, .int v_t_steps, g_t_rows, .int v_t_queued, .int v_t_leastAbove, g_t_rowAtRest, g_t_slipsToRest])), (h_t_energies, .inl (k_cI G, 4096, .inl w_t_energies)), (h_t_queue, .inl (k_cI G, 4096, .inl w_t_queue)), (h_t_reached, .inl (k_cZ G, 4096, .inl w_t_reached))] sz) s.heap H [] := by rw [← hH]; exact hS
  clear hH
  generalize va_A [(h_t, .inr (3, [.ref h_t_energies, .ref h_t_queue, .ref h_t_reached, .int v_t_steps, g_t_rows, .int v_t_queued, .int v_t_leastAbove, g_t_rowAtRest, g_t_slipsToRest])), (h_t_energies, .inl (k_cI G, 4096, .inl w_t_energies)), (h_t_queue, .inl (k_cI G, 4096, .inl w_t_queue)), (h_t_reached, .inl (k_cZ G, 4096, .inl w_t_reached))] sz = A at C0 hD hS ⊢
  have hx := C0.1
  have hb := C0.2.1
  have hts := C0.2.2.2.1
  have hown := C0.2.2.2.2.1
  have hK := C0.2.2.2.2.2.2.2.2.1.1
  have hNW := C0.2.2.2.2.2.2.2.2.1.2.1
  have hSF := C0.2.2.2.2.2.2.2.2.1.2.2
  rw [f_X5_lowestPass] at hrun
  refine lv_aload_n hx hb dX5_lowestPass_0 rfl (lv_at hl 0 rfl) ?_
  refine va_get (D := G.1) (ci := 3) (v := .ref h_t_energies) (C := RX5) (T := TX5) (N := 9) hx hb hts n_X5_lowestPass_X5 hown hK hP 0 rfl rfl 0 (by decide) (hts _ u_X5_lowestPass_1) (fun _ h9 => h9) rfl dX5_lowestPass_1 ?_
  refine lv_iload_n hx hb dX5_lowestPass_4 rfl (lv_at hl 1 rfl) ?_
  obtain ⟨t1, et1, hrun⟩ := bd_inv hrun
  refine k_calli (w2 := fun (_ : Unit) => [(h_t, .inr (3, [.ref h_t_energies, .ref h_t_queue, .ref h_t_reached, .int v_t_steps, g_t_rows, .int v_t_queued, .int v_t_leastAbove, g_t_rowAtRest, g_t_slipsToRest])), (h_t_energies, .inl (k_cI G, 4096, .inl w_t_energies)), (h_t_queue, .inl (k_cI G, 4096, .inl w_t_queue)), (h_t_reached, .inl (k_cZ G, 4096, .inl w_t_reached))]) C0 (k_runSN (rest := []) C0 (c_X11_at et1) (va_cnB 2 hts gX5_lowestPass_X11_at_n39 rfl rfl rfl (k_nw hNW 16 nw_X5_lowestPass_16) (hts _ u_X5_lowestPass_9) e_X11_at.2 ⟨Nat.le_of_ble_eq_true rfl, Nat.le_of_ble_eq_true rfl⟩) (hts _ u_X5_lowestPass_8) hP hD hS [1] rfl (by decide) rfl hl.1 rfl (Nat.le_of_ble_eq_true rfl) dX5_lowestPass_5 ⟨Nat.le_of_ble_eq_true rfl, Nat.le_of_ble_eq_true rfl⟩) hP hD hS [1] [0, 2, 3] rfl rfl (by decide) (by decide) [0, 3, 1, 2] (by decide) (fun _ => rfl) (fun _ H locs hP hD hS => ?_)
  have hP : va_P G.1 vwCl [(h_t, .inr (3, [.ref h_t_energies, .ref h_t_queue, .ref h_t_reached, .int v_t_steps, g_t_rows, .int v_t_queued, .int v_t_leastAbove, g_t_rowAtRest, g_t_slipsToRest])), (h_t_energies, .inl (k_cI G, 4096, .inl w_t_energies)), (h_t_queue, .inl (k_cI G, 4096, .inl w_t_queue)), (h_t_reached, .inl (k_cZ G, 4096, .inl w_t_reached))] H := hP
  have hD : va_D A [(h_t, .inr (3, [.ref h_t_energies, .ref h_t_queue, .ref h_t_reached, .int v_t_steps, g_t_rows, .int v_t_queued, .int v_t_leastAbove, g_t_rowAtRest, g_t_slipsToRest])), (h_t_energies, .inl (k_cI G, 4096, .inl w_t_energies)), (h_t_queue, .inl (k_cI G, 4096, .inl w_t_queue)), (h_t_reached, .inl (k_cZ G, 4096, .inl w_t_reached))] := hD
  refine lv_aload_n hx hb dX5_lowestPass_8 rfl (lv_at hl 0 rfl) ?_
  refine va_get (D := G.1) (ci := 3) (v := .ref h_t_energies) (C := RX5) (T := TX5) (N := 9) hx hb hts n_X5_lowestPass_X5 hown hK hP 0 rfl rfl 0 (by decide) (hts _ u_X5_lowestPass_1) (fun _ h9 => h9) rfl dX5_lowestPass_9 ?_
  refine lv_iload_n hx hb dX5_lowestPass_12 rfl (lv_at hl 2 rfl) ?_
  obtain ⟨t2, et2, hrun⟩ := bd_inv hrun
  refine k_calli (w2 := fun (_ : Unit) => [(h_t, .inr (3, [.ref h_t_energies, .ref h_t_queue, .ref h_t_reached, .int v_t_steps, g_t_rows, .int v_t_queued, .int v_t_leastAbove, g_t_rowAtRest, g_t_slipsToRest])), (h_t_energies, .inl (k_cI G, 4096, .inl w_t_energies)), (h_t_queue, .inl (k_cI G, 4096, .inl w_t_queue)), (h_t_reached, .inl (k_cZ G, 4096, .inl w_t_reached))]) C0 (k_runSN (rest := [.int t1]) C0 (c_X11_at et2) (va_cnB 2 hts gX5_lowestPass_X11_at_n39 rfl rfl rfl (k_nw hNW 16 nw_X5_lowestPass_16) (hts _ u_X5_lowestPass_9) e_X11_at.2 ⟨Nat.le_of_ble_eq_true rfl, Nat.le_of_ble_eq_true rfl⟩) (hts _ u_X5_lowestPass_8) hP hD hS [1] rfl (by decide) rfl hl.1 rfl (Nat.le_of_ble_eq_true rfl) dX5_lowestPass_13 ⟨Nat.le_of_ble_eq_true rfl, Nat.le_of_ble_eq_true rfl⟩) hP hD hS [1] [0, 2, 3] rfl rfl (by decide) (by decide) [0, 3, 1, 2] (by decide) (fun _ => rfl) (fun _ H locs hP hD hS => ?_)
  have hP : va_P G.1 vwCl [(h_t, .inr (3, [.ref h_t_energies, .ref h_t_queue, .ref h_t_reached, .int v_t_steps, g_t_rows, .int v_t_queued, .int v_t_leastAbove, g_t_rowAtRest, g_t_slipsToRest])), (h_t_energies, .inl (k_cI G, 4096, .inl w_t_energies)), (h_t_queue, .inl (k_cI G, 4096, .inl w_t_queue)), (h_t_reached, .inl (k_cZ G, 4096, .inl w_t_reached))] H := hP
  have hD : va_D A [(h_t, .inr (3, [.ref h_t_energies, .ref h_t_queue, .ref h_t_reached, .int v_t_steps, g_t_rows, .int v_t_queued, .int v_t_leastAbove, g_t_rowAtRest, g_t_slipsToRest])), (h_t_energies, .inl (k_cI G, 4096, .inl w_t_energies)), (h_t_queue, .inl (k_cI G, 4096, .inl w_t_queue)), (h_t_reached, .inl (k_cZ G, 4096, .inl w_t_reached))] := hD
  refine va_mmax hx hb (C0.2.2.2.2.2.2.1.trans hl.1.symm) hown (hts _ u_X5_lowestPass_2) (hts _ u_X5_lowestPass_3) (hts _ u_X5_lowestPass_4) (hts _ u_X5_lowestPass_5) (Nat.le_of_ble_eq_true rfl) (Nat.le_of_ble_eq_true rfl) (Nat.le_of_ble_eq_true rfl) (Nat.le_of_ble_eq_true rfl) dX5_lowestPass_16 ?_
  obtain ⟨n3, en, hrun⟩ := lt_inv hrun
  refine k_nmi en ?_
  clear en
  refine lv_istore_n (lv' := [(3, .int n3), (0, .ref h_t), (1, .int p1), (2, .int p2)]) hx hb dX5_lowestPass_19 rfl hl (by decide) rfl (fun ls hl => ?_)
  refine lv_iconst (v := 0) hx hb dX5_lowestPass_20 (by decide) ?_
  refine lv_istore (lv' := [(4, .int (0 : Int32)), (3, .int n3), (0, .ref h_t), (1, .int p1), (2, .int p2)]) hx hb dX5_lowestPass_21 hl (by decide) rfl (fun ls hl => ?_)
  exact t_X5_lowestPass_23 C0 kFU p1 p2 n3 (0 : Int32) v_t_leastAbove v_t_queued v_t_steps w_t_energies w_t_queue w_t_reached _ _ _ hP hD hS (lv_sub hl [2, 3, 4, 1, 0] rfl) hrun
theorem u_X5_settle_1 : (Cond.fieldLink RX5 69 "ClosePacking$Landscape" "rowAtRest" "I") ∈ wsX5_settle := List.mem_of_getElem? (i := 1) (by decide +kernel)
theorem u_X5_settle_2 : (Cond.fieldLink RX5 72 "ClosePacking$Landscape" "slipsToRest" "I") ∈ wsX5_settle := List.mem_of_getElem? (i := 2) (by decide +kernel)
theorem n_X5_settle_X5 : ∀ w ∈ u_ws RX5 TX5 9, w ∈ wsX5_settle := by decide +kernel
abbrev rm_X5_settle : Room := { frames := 4, cells := 0, slots := 0, locals := 91 }
theorem e_X5_settle : yX5_settle.cls = RX5 ∧ yX5_settle.cls ≠ "java/lang/invoke/MethodHandle" ∧ yX5_settle.cls ≠ "java/lang/invoke/VarHandle" ∧ (parseMethodDescriptor yX5_settle.desc).map (fun d => d.parameters.length) = some 3 := by decide +kernel
set_option maxHeartbeats 4000000 in
set_option maxRecDepth 100000 in
theorem t_X5_settle_13 {l : Launch} {G : k_G} {p : Program} {e : Env} {s : State} {m : MethodId} {args : Array Value} {below : List Frame} {meth : Method} {c : Code} {A : Nat → Prop} {h_a1 h_t : Nat} {g_a1_complete g_a1_growth g_a1_stacks g_a1_names g_a1_unsureCount g_a1_unsureStacks g_a1_unsurePlaces g_a1_agreedCount g_a1_agreedStacks g_a1_agreedDistances g_a1_agreedLayers g_t_energies g_t_queue g_t_reached g_t_steps g_t_rows g_t_queued g_t_leastAbove : Value} {out : Int32 × Int32} (C0 : k_C G p s m args meth c A cX5_settle RX5 wsX5_settle 6 none "settle") : ∀ (n : Nat) (x3 : Int32) (x4 : Int32) (v_a1_near : Int32) (v_a1_second : Int32) (v_a1_third : Int32) (v_t_rowAtRest : Int32) (v_t_slipsToRest : Int32) (H : Heap) (locs : List Loc) (ls : Array Slot), va_P G.1 vwCl [(h_a1, .inr (2, [g_a1_complete, .int v_a1_near, .int v_a1_second, .int v_a1_third, g_a1_growth, g_a1_stacks, g_a1_names, g_a1_unsureCount, g_a1_unsureStacks, g_a1_unsurePlaces, g_a1_agreedCount, g_a1_agreedStacks, g_a1_agreedDistances, g_a1_agreedLayers])), (h_t, .inr (3, [g_t_energies, g_t_queue, g_t_reached, g_t_steps, g_t_rows, g_t_queued, g_t_leastAbove, .int v_t_rowAtRest, .int v_t_slipsToRest]))] H → va_D A [(h_a1, .inr (2, [g_a1_complete, .int v_a1_near, .int v_a1_second, .int v_a1_third, g_a1_growth, g_a1_stacks, g_a1_names, g_a1_unsureCount, g_a1_unsureStacks, g_a1_unsurePlaces, g_a1_agreedCount, g_a1_agreedStacks, g_a1_agreedDistances, g_a1_agreedLayers])), (h_t, .inr (3, [g_t_energies, g_t_queue, g_t_reached, g_t_steps, g_t_rows, g_t_queued, g_t_leastAbove, .int v_t_rowAtRest, .int v_t_slipsToRest]))] → va_S A s.heap H locs → lv_has ls 6 [(0, .ref h_t), (1, .ref h_a1), (3, .int x3), (4, .int x4)] → f_X5_settle_13 n x3 x4 v_a1_near v_a1_second v_a1_third v_t_rowAtRest v_t_slipsToRest = some out → W p l e rm_X5_settle s m args below meth c H locs 0 0 (MQ below (k_Qv G A (fun (_ : Unit) => [(h_a1, .inr (2, [g_a1_complete, .int v_a1_near, .int v_a1_second, .int v_a1_third, g_a1_growth, g_a1_stacks, g_a1_names, g_a1_unsureCount, g_a1_unsureStacks, g_a1_unsurePlaces, g_a1_agreedCount, g_a1_agreedStacks, g_a1_agreedDistances, g_a1_agreedLayers])), (h_t, .inr (3, [g_t_energies, g_t_queue, g_t_reached, g_t_steps, g_t_rows, g_t_queued, g_t_leastAbove, .int out.1, .int out.2]))])) args s 0 0 A) (F0 m 13 ls []) := by
  have hx := C0.1
  have hb := C0.2.1
  have hts := C0.2.2.2.1
  have hown := C0.2.2.2.2.1
  have hK := C0.2.2.2.2.2.2.2.2.1.1
  have hNW := C0.2.2.2.2.2.2.2.2.1.2.1
  have hSF := C0.2.2.2.2.2.2.2.2.1.2.2
  intro n
  induction n with
  | zero =>
    intro x3 x4 v_a1_near v_a1_second v_a1_third v_t_rowAtRest v_t_slipsToRest H locs ls hP hD hS hl hrun
    rw [f_X5_settle_13] at hrun
    cases hrun
  | succ n ih =>
    intro x3 x4 v_a1_near v_a1_second v_a1_third v_t_rowAtRest v_t_slipsToRest H locs ls hP hD hS hl hrun
    rw [f_X5_settle_13] at hrun
    refine lv_iload hx hb dX5_settle_13 (lv_at hl 3 rfl) ?_
    refine lv_sipush (v := 4096) hx hb dX5_settle_15 (by decide) ?_
    refine lv_icmp_ge (tgt := 83) hx hb dX5_settle_18 (by decide) (fun q1 => ?_) (fun q1 => ?_)
    · replace hrun := if_t q1 hrun
      obtain rfl := Option.some.inj hrun
      exact k_retv C0 hP hD hS () rfl dX5_settle_83
    · replace hrun := if_f q1 hrun
      refine lv_aload_n hx hb dX5_settle_21 rfl (lv_at hl 0 rfl) ?_
      refine va_get (D := G.1) (ci := 3) (v := .int v_t_rowAtRest) (C := RX5) (T := TX5) (N := 9) hx hb hts n_X5_settle_X5 hown hK hP 1 rfl rfl 7 (by decide) (hts _ u_X5_settle_1) (fun _ h9 => h9) rfl dX5_settle_22 ?_
      refine lv_iload_n hx hb dX5_settle_25 rfl (lv_at hl 2 rfl) ?_
      refine lv_aload_n hx hb dX5_settle_26 rfl (lv_at hl 1 rfl) ?_
      refine lv_aload_n hx hb dX5_settle_27 rfl (lv_at hl 0 rfl) ?_
      refine va_get (D := G.1) (ci := 3) (v := .int v_t_rowAtRest) (C := RX5) (T := TX5) (N := 9) hx hb hts n_X5_settle_X5 hown hK hP 1 rfl rfl 7 (by decide) (hts _ u_X5_settle_1) (fun _ h9 => h9) rfl dX5_settle_28 ?_
      refine lv_iload_n hx hb dX5_settle_31 rfl (lv_at hl 2 rfl) ?_
      obtain ⟨t2, et2, hrun⟩ := bd_inv hrun
      refine k_calli (w2 := fun (_ : Unit) => [(h_a1, .inr (2, [g_a1_complete, .int v_a1_near, .int v_a1_second, .int v_a1_third, g_a1_growth, g_a1_stacks, g_a1_names, g_a1_unsureCount, g_a1_unsureStacks, g_a1_unsurePlaces, g_a1_agreedCount, g_a1_agreedStacks, g_a1_agreedDistances, g_a1_agreedLayers])), (h_t, .inr (3, [g_t_energies, g_t_queue, g_t_reached, g_t_steps, g_t_rows, g_t_queued, g_t_leastAbove, .int v_t_rowAtRest, .int v_t_slipsToRest]))]) C0 (k_runV (rest := [.int x3, .int v_t_rowAtRest]) C0 (c_X4_weakestStep et2) (cwV 2 hts gX5_settle_X4_weakestStep rfl rfl rfl e_X4_weakestStep ⟨Nat.le_of_ble_eq_true rfl, Nat.le_of_ble_eq_true rfl⟩) hP hD hS [0] rfl (by decide) 0 (qc := (RX4, TX4, 14)) rfl rfl rfl rfl hl.1 rfl (Nat.le_of_ble_eq_true rfl) dX5_settle_32 ⟨Nat.le_of_ble_eq_true rfl, Nat.le_of_ble_eq_true rfl⟩) hP hD hS [0] [1] rfl rfl (by decide) (by decide) [1, 0] (by decide) (fun _ => rfl) (fun _ H locs hP hD hS => ?_)
      have hP : va_P G.1 vwCl [(h_a1, .inr (2, [g_a1_complete, .int v_a1_near, .int v_a1_second, .int v_a1_third, g_a1_growth, g_a1_stacks, g_a1_names, g_a1_unsureCount, g_a1_unsureStacks, g_a1_unsurePlaces, g_a1_agreedCount, g_a1_agreedStacks, g_a1_agreedDistances, g_a1_agreedLayers])), (h_t, .inr (3, [g_t_energies, g_t_queue, g_t_reached, g_t_steps, g_t_rows, g_t_queued, g_t_leastAbove, .int v_t_rowAtRest, .int v_t_slipsToRest]))] H := hP
      have hD : va_D A [(h_a1, .inr (2, [g_a1_complete, .int v_a1_near, .int v_a1_second, .int v_a1_third, g_a1_growth, g_a1_stacks, g_a1_names, g_a1_unsureCount, g_a1_unsureStacks, g_a1_unsurePlaces, g_a1_agreedCount, g_a1_agreedStacks, g_a1_agreedDistances, g_a1_agreedLayers])), (h_t, .inr (3, [g_t_energies, g_t_queue, g_t_reached, g_t_steps, g_t_rows, g_t_queued, g_t_leastAbove, .int v_t_rowAtRest, .int v_t_slipsToRest]))] := hD
      obtain ⟨t3, et3, hrun⟩ := bd_inv hrun
      refine k_calli0 C0 (k_runS (rest := [.int v_t_rowAtRest]) C0 (c_X8_bit et3) (va_cwS 2 hts gX5_settle_X8_bit rfl rfl rfl e_X8_bit.2 ⟨Nat.le_of_ble_eq_true rfl, Nat.le_of_ble_eq_true rfl⟩) hP hD hS [] rfl (by decide) rfl hl.1 rfl (Nat.le_of_ble_eq_true rfl) dX5_settle_35 ⟨Nat.le_of_ble_eq_true rfl, Nat.le_of_ble_eq_true rfl⟩) hP hS (fun H locs hP hS => ?_)
      refine lv_ixor hx hb dX5_settle_38 ?_
      obtain ⟨n4, en, hrun⟩ := lt_inv hrun
      refine k_nmi en ?_
      clear en
      refine lv_istore (lv' := [(5, .int n4), (0, .ref h_t), (1, .ref h_a1), (3, .int x3), (4, .int x4)]) hx hb dX5_settle_39 hl (by decide) rfl (fun ls hl => ?_)
      refine lv_aload_n hx hb dX5_settle_41 rfl (lv_at hl 2 rfl) ?_
      refine lv_iload hx hb dX5_settle_42 (lv_at hl 0 rfl) ?_
      refine lv_iload_n hx hb dX5_settle_44 rfl (lv_at hl 3 rfl) ?_
      obtain ⟨t5, et5, hrun⟩ := bd_inv hrun
      refine k_calli (w2 := fun (_ : Unit) => [(h_a1, .inr (2, [g_a1_complete, .int v_a1_near, .int v_a1_second, .int v_a1_third, g_a1_growth, g_a1_stacks, g_a1_names, g_a1_unsureCount, g_a1_unsureStacks, g_a1_unsurePlaces, g_a1_agreedCount, g_a1_agreedStacks, g_a1_agreedDistances, g_a1_agreedLayers])), (h_t, .inr (3, [g_t_energies, g_t_queue, g_t_reached, g_t_steps, g_t_rows, g_t_queued, g_t_leastAbove, .int v_t_rowAtRest, .int v_t_slipsToRest]))]) C0 (k_runV (rest := []) C0 (c_X4_energyOf et5) (cwV 2 hts gX5_settle_X4_energyOf rfl rfl rfl e_X4_energyOf ⟨Nat.le_of_ble_eq_true rfl, Nat.le_of_ble_eq_true rfl⟩) hP hD hS [0] rfl (by decide) 0 (qc := (RX4, TX4, 14)) rfl rfl rfl rfl hl.1 rfl (Nat.le_of_ble_eq_true rfl) dX5_settle_45 ⟨Nat.le_of_ble_eq_true rfl, Nat.le_of_ble_eq_true rfl⟩) hP hD hS [0] [1] rfl rfl (by decide) (by decide) [1, 0] (by decide) (fun _ => rfl) (fun _ H locs hP hD hS => ?_)
      have hP : va_P G.1 vwCl [(h_a1, .inr (2, [g_a1_complete, .int v_a1_near, .int v_a1_second, .int v_a1_third, g_a1_growth, g_a1_stacks, g_a1_names, g_a1_unsureCount, g_a1_unsureStacks, g_a1_unsurePlaces, g_a1_agreedCount, g_a1_agreedStacks, g_a1_agreedDistances, g_a1_agreedLayers])), (h_t, .inr (3, [g_t_energies, g_t_queue, g_t_reached, g_t_steps, g_t_rows, g_t_queued, g_t_leastAbove, .int v_t_rowAtRest, .int v_t_slipsToRest]))] H := hP
      have hD : va_D A [(h_a1, .inr (2, [g_a1_complete, .int v_a1_near, .int v_a1_second, .int v_a1_third, g_a1_growth, g_a1_stacks, g_a1_names, g_a1_unsureCount, g_a1_unsureStacks, g_a1_unsurePlaces, g_a1_agreedCount, g_a1_agreedStacks, g_a1_agreedDistances, g_a1_agreedLayers])), (h_t, .inr (3, [g_t_energies, g_t_queue, g_t_reached, g_t_steps, g_t_rows, g_t_queued, g_t_leastAbove, .int v_t_rowAtRest, .int v_t_slipsToRest]))] := hD
      refine lv_aload_n hx hb dX5_settle_48 rfl (lv_at hl 2 rfl) ?_
      refine lv_aload_n hx hb dX5_settle_49 rfl (lv_at hl 1 rfl) ?_
      refine va_get (D := G.1) (ci := 3) (v := .int v_t_rowAtRest) (C := RX5) (T := TX5) (N := 9) hx hb hts n_X5_settle_X5 hown hK hP 1 rfl rfl 7 (by decide) (hts _ u_X5_settle_1) (fun _ h9 => h9) rfl dX5_settle_50 ?_
      refine lv_iload_n hx hb dX5_settle_53 rfl (lv_at hl 3 rfl) ?_
      obtain ⟨t6, et6, hrun⟩ := bd_inv hrun
      refine k_calli (w2 := fun (_ : Unit) => [(h_a1, .inr (2, [g_a1_complete, .int v_a1_near, .int v_a1_second, .int v_a1_third, g_a1_growth, g_a1_stacks, g_a1_names, g_a1_unsureCount, g_a1_unsureStacks, g_a1_unsurePlaces, g_a1_agreedCount, g_a1_agreedStacks, g_a1_agreedDistances, g_a1_agreedLayers])), (h_t, .inr (3, [g_t_energies, g_t_queue, g_t_reached, g_t_steps, g_t_rows, g_t_queued, g_t_leastAbove, .int v_t_rowAtRest, .int v_t_slipsToRest]))]) C0 (k_runV (rest := [.int t5]) C0 (c_X4_energyOf et6) (cwV 2 hts gX5_settle_X4_energyOf rfl rfl rfl e_X4_energyOf ⟨Nat.le_of_ble_eq_true rfl, Nat.le_of_ble_eq_true rfl⟩) hP hD hS [0] rfl (by decide) 0 (qc := (RX4, TX4, 14)) rfl rfl rfl rfl hl.1 rfl (Nat.le_of_ble_eq_true rfl) dX5_settle_54 ⟨Nat.le_of_ble_eq_true rfl, Nat.le_of_ble_eq_true rfl⟩) hP hD hS [0] [1] rfl rfl (by decide) (by decide) [1, 0] (by decide) (fun _ => rfl) (fun _ H locs hP hD hS => ?_)
      have hP : va_P G.1 vwCl [(h_a1, .inr (2, [g_a1_complete, .int v_a1_near, .int v_a1_second, .int v_a1_third, g_a1_growth, g_a1_stacks, g_a1_names, g_a1_unsureCount, g_a1_unsureStacks, g_a1_unsurePlaces, g_a1_agreedCount, g_a1_agreedStacks, g_a1_agreedDistances, g_a1_agreedLayers])), (h_t, .inr (3, [g_t_energies, g_t_queue, g_t_reached, g_t_steps, g_t_rows, g_t_queued, g_t_leastAbove, .int v_t_rowAtRest, .int v_t_slipsToRest]))] H := hP
      have hD : va_D A [(h_a1, .inr (2, [g_a1_complete, .int v_a1_near, .int v_a1_second, .int v_a1_third, g_a1_growth, g_a1_stacks, g_a1_names, g_a1_unsureCount, g_a1_unsureStacks, g_a1_unsurePlaces, g_a1_agreedCount, g_a1_agreedStacks, g_a1_agreedDistances, g_a1_agreedLayers])), (h_t, .inr (3, [g_t_energies, g_t_queue, g_t_reached, g_t_steps, g_t_rows, g_t_queued, g_t_leastAbove, .int v_t_rowAtRest, .int v_t_slipsToRest]))] := hD
      refine lv_icmp_lt (tgt := 61) hx hb dX5_settle_57 (by decide) (fun q7 => ?_) (fun q7 => ?_)
      · replace hrun := if_t q7 hrun
        refine lv_aload_n hx hb dX5_settle_61 rfl (lv_at hl 1 rfl) ?_
        refine lv_iload hx hb dX5_settle_62 (lv_at hl 0 rfl) ?_
        refine va_put (D := G.1) (ci := 3) (v := .int n4) (ty := .int) (C := RX5) (T := TX5) (N := 9) hx hb hts n_X5_settle_X5 tyX5 tyX5_ok nmX5 hown hK hP hD hS 1 rfl rfl 7 (by decide) (hts _ u_X5_settle_1) (fun _ h9 => h9) rfl (by decide +kernel) rfl rfl (Nat.le_of_ble_eq_true rfl) dX5_settle_64 (fun H locs hP hD hS => ?_)
        have hP : va_P G.1 vwCl [(h_a1, .inr (2, [g_a1_complete, .int v_a1_near, .int v_a1_second, .int v_a1_third, g_a1_growth, g_a1_stacks, g_a1_names, g_a1_unsureCount, g_a1_unsureStacks, g_a1_unsurePlaces, g_a1_agreedCount, g_a1_agreedStacks, g_a1_agreedDistances, g_a1_agreedLayers])), (h_t, .inr (3, [g_t_energies, g_t_queue, g_t_reached, g_t_steps, g_t_rows, g_t_queued, g_t_leastAbove, .int n4, .int v_t_slipsToRest]))] H := hP
        have hD : va_D A [(h_a1, .inr (2, [g_a1_complete, .int v_a1_near, .int v_a1_second, .int v_a1_third, g_a1_growth, g_a1_stacks, g_a1_names, g_a1_unsureCount, g_a1_unsureStacks, g_a1_unsurePlaces, g_a1_agreedCount, g_a1_agreedStacks, g_a1_agreedDistances, g_a1_agreedLayers])), (h_t, .inr (3, [g_t_energies, g_t_queue, g_t_reached, g_t_steps, g_t_rows, g_t_queued, g_t_leastAbove, .int n4, .int v_t_slipsToRest]))] := hD
        refine lv_aload_n hx hb dX5_settle_67 rfl (lv_at hl 1 rfl) ?_
        refine lv_dup hx hb dX5_settle_68 rfl ?_
        refine va_get (D := G.1) (ci := 3) (v := .int v_t_slipsToRest) (C := RX5) (T := TX5) (N := 9) hx hb hts n_X5_settle_X5 hown hK hP 1 rfl rfl 8 (by decide) (hts _ u_X5_settle_2) (fun _ h9 => h9) rfl dX5_settle_69 ?_
        refine lv_iconst (v := 1) hx hb dX5_settle_72 (by decide) ?_
        refine lv_iadd hx hb dX5_settle_73 ?_
        obtain ⟨n8, en, hrun⟩ := lt_inv hrun
        refine k_nmi en ?_
        clear en
        refine va_put (D := G.1) (ci := 3) (v := .int n8) (ty := .int) (C := RX5) (T := TX5) (N := 9) hx hb hts n_X5_settle_X5 tyX5 tyX5_ok nmX5 hown hK hP hD hS 1 rfl rfl 8 (by decide) (hts _ u_X5_settle_2) (fun _ h9 => h9) rfl (by decide +kernel) rfl rfl (Nat.le_of_ble_eq_true rfl) dX5_settle_74 (fun H locs hP hD hS => ?_)
        have hP : va_P G.1 vwCl [(h_a1, .inr (2, [g_a1_complete, .int v_a1_near, .int v_a1_second, .int v_a1_third, g_a1_growth, g_a1_stacks, g_a1_names, g_a1_unsureCount, g_a1_unsureStacks, g_a1_unsurePlaces, g_a1_agreedCount, g_a1_agreedStacks, g_a1_agreedDistances, g_a1_agreedLayers])), (h_t, .inr (3, [g_t_energies, g_t_queue, g_t_reached, g_t_steps, g_t_rows, g_t_queued, g_t_leastAbove, .int n4, .int n8]))] H := hP
        have hD : va_D A [(h_a1, .inr (2, [g_a1_complete, .int v_a1_near, .int v_a1_second, .int v_a1_third, g_a1_growth, g_a1_stacks, g_a1_names, g_a1_unsureCount, g_a1_unsureStacks, g_a1_unsurePlaces, g_a1_agreedCount, g_a1_agreedStacks, g_a1_agreedDistances, g_a1_agreedLayers])), (h_t, .inr (3, [g_t_energies, g_t_queue, g_t_reached, g_t_steps, g_t_rows, g_t_queued, g_t_leastAbove, .int n4, .int n8]))] := hD
        refine lv_iinc (v := x4 + 1) (lv' := [(4, .int (x4 + 1)), (5, .int n4), (0, .ref h_t), (1, .ref h_a1), (3, .int x3)]) hx hb dX5_settle_77 hl (k := 4) rfl rfl (by decide) rfl (fun ls hl => ?_)
        refine lv_goto (tgt := 13) hx hb dX5_settle_80 (by decide) ?_
        exact ih x3 (x4 + 1) v_a1_near v_a1_second v_a1_third n4 n8 _ _ _ hP hD hS (lv_sub hl [2, 3, 4, 0] rfl) hrun
      · replace hrun := if_f q7 hrun
        obtain rfl := Option.some.inj hrun
        exact k_retv C0 hP hD hS () rfl dX5_settle_60
set_option maxHeartbeats 4000000 in
set_option maxRecDepth 100000 in
theorem c_X5_settle {l : Launch} {G : k_G} {h_a1 h_t : Nat} {g_a1_complete g_a1_growth g_a1_stacks g_a1_names g_a1_unsureCount g_a1_unsureStacks g_a1_unsurePlaces g_a1_agreedCount g_a1_agreedStacks g_a1_agreedDistances g_a1_agreedLayers g_t_energies g_t_queue g_t_reached g_t_steps g_t_rows g_t_queued g_t_leastAbove : Value} {sz : Nat} {p2 : Int32} {p3 : Int32} {v_a1_near : Int32} {v_a1_second : Int32} {v_a1_third : Int32} {v_t_rowAtRest : Int32} {v_t_slipsToRest : Int32} {out : Int32 × Int32} (hrun : f_X5_settle p2 p3 v_a1_near v_a1_second v_a1_third v_t_rowAtRest v_t_slipsToRest = some out) : k_Cv l G yX5_settle wsX5_settle rm_X5_settle [.ref h_t, .ref h_a1, .int p2, .int p3] [(h_a1, .inr (2, [g_a1_complete, .int v_a1_near, .int v_a1_second, .int v_a1_third, g_a1_growth, g_a1_stacks, g_a1_names, g_a1_unsureCount, g_a1_unsureStacks, g_a1_unsurePlaces, g_a1_agreedCount, g_a1_agreedStacks, g_a1_agreedDistances, g_a1_agreedLayers])), (h_t, .inr (3, [g_t_energies, g_t_queue, g_t_reached, g_t_steps, g_t_rows, g_t_queued, g_t_leastAbove, .int v_t_rowAtRest, .int v_t_slipsToRest]))] sz (fun (_ : Unit) => [(h_a1, .inr (2, [g_a1_complete, .int v_a1_near, .int v_a1_second, .int v_a1_third, g_a1_growth, g_a1_stacks, g_a1_names, g_a1_unsureCount, g_a1_unsureStacks, g_a1_unsurePlaces, g_a1_agreedCount, g_a1_agreedStacks, g_a1_agreedDistances, g_a1_agreedLayers])), (h_t, .inr (3, [g_t_energies, g_t_queue, g_t_reached, g_t_steps, g_t_rows, g_t_queued, g_t_leastAbove, .int out.1, .int out.2]))]) 0 0 := by
  refine k_of (cc := cX5_settle) (nL := 6) (ret := none) (own := RX5) (nm := "settle") (by decide) rfl rfl rfl rfl ?_
  intro p e s m args below meth c ls hsz C0 hP hD hS hl
  have hl : lv_has ls 6 [(0, .ref h_t), (1, .ref h_a1), (2, .int p2), (3, .int p3)] := hl
  generalize hH : s.heap = H at hP
  have hS : va_S (va_A [(h_a1, .inr (2, [g_a1_complete, .int v_a1_near, .int v_a1_second, .int v_a1_third, g_a1_growth, g_a1_stacks, g_a1_names, g_a1_unsureCount, g_a1_unsureStacks, g_a1_unsurePlaces, g_a1_agreedCount, g_a1_agreedStacks, g_a1_agreedDistances, g_a1_agreedLayers])), (h_t, .inr (3, [g_t_energies, g_t_queue, g_t_reached, g_t_steps, g_t_rows, g_t_queued, g_t_leastAbove, .int v_t_rowAtRest, .int v_t_slipsToRest]))] sz) s.heap H [] := by rw [← hH]; exact hS
  clear hH
  generalize va_A [(h_a1, .inr (2, [g_a1_complete, .int v_a1_near, .int v_a1_second, .int v_a1_third, g_a1_growth, g_a1_stacks, g_a1_names, g_a1_unsureCount, g_a1_unsureStacks, g_a1_unsurePlaces, g_a1_agreedCount, g_a1_agreedStacks, g_a1_agreedDistances, g_a1_agreedLayers])), (h_t, .inr (3, [g_t_energies, g_t_queue, g_t_reached, g_t_steps, g_t_rows, g_t_queued, g_t_leastAbove, .int v_t_rowAtRest, .int v_t_slipsToRest]))] sz = A at C0 hD hS ⊢
  have hx := C0.1
  have hb := C0.2.1
  have hts := C0.2.2.2.1
  have hown := C0.2.2.2.2.1
  have hK := C0.2.2.2.2.2.2.2.2.1.1
  have hNW := C0.2.2.2.2.2.2.2.2.1.2.1
  have hSF := C0.2.2.2.2.2.2.2.2.1.2.2
  rw [f_X5_settle] at hrun
  refine lv_aload_n hx hb dX5_settle_0 rfl (lv_at hl 0 rfl) ?_
  refine lv_iload_n hx hb dX5_settle_1 rfl (lv_at hl 2 rfl) ?_
  refine va_put (D := G.1) (ci := 3) (v := .int p2) (ty := .int) (C := RX5) (T := TX5) (N := 9) hx hb hts n_X5_settle_X5 tyX5 tyX5_ok nmX5 hown hK hP hD hS 1 rfl rfl 7 (by decide) (hts _ u_X5_settle_1) (fun _ h9 => h9) rfl (by decide +kernel) rfl rfl (Nat.le_of_ble_eq_true rfl) dX5_settle_2 (fun H locs hP hD hS => ?_)
  have hP : va_P G.1 vwCl [(h_a1, .inr (2, [g_a1_complete, .int v_a1_near, .int v_a1_second, .int v_a1_third, g_a1_growth, g_a1_stacks, g_a1_names, g_a1_unsureCount, g_a1_unsureStacks, g_a1_unsurePlaces, g_a1_agreedCount, g_a1_agreedStacks, g_a1_agreedDistances, g_a1_agreedLayers])), (h_t, .inr (3, [g_t_energies, g_t_queue, g_t_reached, g_t_steps, g_t_rows, g_t_queued, g_t_leastAbove, .int p2, .int v_t_slipsToRest]))] H := hP
  have hD : va_D A [(h_a1, .inr (2, [g_a1_complete, .int v_a1_near, .int v_a1_second, .int v_a1_third, g_a1_growth, g_a1_stacks, g_a1_names, g_a1_unsureCount, g_a1_unsureStacks, g_a1_unsurePlaces, g_a1_agreedCount, g_a1_agreedStacks, g_a1_agreedDistances, g_a1_agreedLayers])), (h_t, .inr (3, [g_t_energies, g_t_queue, g_t_reached, g_t_steps, g_t_rows, g_t_queued, g_t_leastAbove, .int p2, .int v_t_slipsToRest]))] := hD
  refine lv_aload_n hx hb dX5_settle_5 rfl (lv_at hl 0 rfl) ?_
  refine lv_iconst (v := 0) hx hb dX5_settle_6 (by decide) ?_
  refine va_put (D := G.1) (ci := 3) (v := .int (0 : Int32)) (ty := .int) (C := RX5) (T := TX5) (N := 9) hx hb hts n_X5_settle_X5 tyX5 tyX5_ok nmX5 hown hK hP hD hS 1 rfl rfl 8 (by decide) (hts _ u_X5_settle_2) (fun _ h9 => h9) rfl (by decide +kernel) rfl rfl (Nat.le_of_ble_eq_true rfl) dX5_settle_7 (fun H locs hP hD hS => ?_)
  have hP : va_P G.1 vwCl [(h_a1, .inr (2, [g_a1_complete, .int v_a1_near, .int v_a1_second, .int v_a1_third, g_a1_growth, g_a1_stacks, g_a1_names, g_a1_unsureCount, g_a1_unsureStacks, g_a1_unsurePlaces, g_a1_agreedCount, g_a1_agreedStacks, g_a1_agreedDistances, g_a1_agreedLayers])), (h_t, .inr (3, [g_t_energies, g_t_queue, g_t_reached, g_t_steps, g_t_rows, g_t_queued, g_t_leastAbove, .int p2, .int (0 : Int32)]))] H := hP
  have hD : va_D A [(h_a1, .inr (2, [g_a1_complete, .int v_a1_near, .int v_a1_second, .int v_a1_third, g_a1_growth, g_a1_stacks, g_a1_names, g_a1_unsureCount, g_a1_unsureStacks, g_a1_unsurePlaces, g_a1_agreedCount, g_a1_agreedStacks, g_a1_agreedDistances, g_a1_agreedLayers])), (h_t, .inr (3, [g_t_energies, g_t_queue, g_t_reached, g_t_steps, g_t_rows, g_t_queued, g_t_leastAbove, .int p2, .int (0 : Int32)]))] := hD
  refine lv_iconst (v := 0) hx hb dX5_settle_10 (by decide) ?_
  refine lv_istore (lv' := [(4, .int (0 : Int32)), (0, .ref h_t), (1, .ref h_a1), (2, .int p2), (3, .int p3)]) hx hb dX5_settle_11 hl (by decide) rfl (fun ls hl => ?_)
  exact t_X5_settle_13 C0 kFU p3 (0 : Int32) v_a1_near v_a1_second v_a1_third p2 (0 : Int32) _ _ _ hP hD hS (lv_sub hl [1, 2, 4, 0] rfl) hrun
abbrev rm_X1_has : Room := { frames := 0, cells := 0, slots := 0, locals := 0 }
theorem e_X1_has : yX1_has.cls = RX1 ∧ yX1_has.cls ≠ "java/lang/invoke/MethodHandle" ∧ yX1_has.cls ≠ "java/lang/invoke/VarHandle" ∧ (parseMethodDescriptor yX1_has.desc).map (fun d => d.parameters.length) = some 2 := by decide +kernel
set_option maxHeartbeats 4000000 in
set_option maxRecDepth 100000 in
theorem c_X1_has {l : Launch} {G : k_G} {sz : Nat} {p0 : Int32} {p1 : Int32} {out : Int32} (hrun : f_X1_has p0 p1 = some out) : k_Ci l G yX1_has wsX1_has rm_X1_has [.int p0, .int p1] [] sz out (fun (_ : Unit) => []) 0 0 := by
  refine k_of (cc := cX1_has) (nL := 2) (ret := some .boolean) (own := RX1) (nm := "has") (by decide) rfl rfl rfl rfl ?_
  intro p e s m args below meth c ls hsz C0 hP hD hS hl
  have hl : lv_has ls 2 [(0, .int p0), (1, .int p1)] := hl
  generalize hH : s.heap = H at hP
  have hS : va_S (va_A [] sz) s.heap H [] := by rw [← hH]; exact hS
  clear hH
  generalize va_A [] sz = A at C0 hD hS ⊢
  have hx := C0.1
  have hb := C0.2.1
  have hts := C0.2.2.2.1
  have hown := C0.2.2.2.2.1
  have hK := C0.2.2.2.2.2.2.2.2.1.1
  have hNW := C0.2.2.2.2.2.2.2.2.1.2.1
  have hSF := C0.2.2.2.2.2.2.2.2.1.2.2
  rw [f_X1_has] at hrun
  refine lv_iload_n hx hb dX1_has_0 rfl (lv_at hl 0 rfl) ?_
  refine lv_iload_n hx hb dX1_has_1 rfl (lv_at hl 1 rfl) ?_
  refine lv_ishr hx hb dX1_has_2 ?_
  refine lv_iconst (v := 1) hx hb dX1_has_3 (by decide) ?_
  refine lv_iand hx hb dX1_has_4 ?_
  refine lv_if_eq (tgt := 12) hx hb dX1_has_5 (by decide) (fun q1 => ?_) (fun q1 => ?_)
  · replace hrun := if_t q1 hrun
    refine lv_iconst (v := 0) hx hb dX1_has_12 (by decide) ?_
    obtain rfl := Option.some.inj hrun
    exact k_retz C0 hP hD hS () rfl rfl rfl dX1_has_13
  · replace hrun := if_f q1 hrun
    refine lv_iconst (v := 1) hx hb dX1_has_8 (by decide) ?_
    refine lv_goto (tgt := 13) hx hb dX1_has_9 (by decide) ?_
    obtain rfl := Option.some.inj hrun
    exact k_retz C0 hP hD hS () rfl rfl rfl dX1_has_13
theorem u_X1_rowWith_7 : (Cond.static yX11_at) ∈ wsX1_rowWith := List.mem_of_getElem? (i := 7) (by decide +kernel)
theorem u_X1_rowWith_8 : (Cond.initialized RX11) ∈ wsX1_rowWith := List.mem_of_getElem? (i := 8) (by decide +kernel)
theorem n_X1_rowWith_X4 : ∀ w ∈ u_ws RX4 TX4 14, w ∈ wsX1_rowWith := by decide +kernel
theorem nw_X1_rowWith_9 : k_nest[9]? = some (.methodLinkNest RX1 32 yX11_at "ClosePacking") := rfl
theorem nw_X1_rowWith_39 : k_nest[39]? = some (.fieldLinkNest RX1 36 "ClosePacking$Lab" "stacks" "LClosePacking$Stacks;" "ClosePacking") := rfl
theorem nw_X1_rowWith_42 : k_nest[42]? = some (.fieldLinkNest RX1 69 "ClosePacking$Lab" "unsureStacks" "[I" "ClosePacking") := rfl
theorem nw_X1_rowWith_43 : k_nest[43]? = some (.fieldLinkNest RX1 72 "ClosePacking$Lab" "unsurePlaces" "[I" "ClosePacking") := rfl
theorem nw_X1_rowWith_44 : k_nest[44]? = some (.fieldLinkNest RX1 9 "ClosePacking$Lab" "unsureCount" "I" "ClosePacking") := rfl
abbrev rm_X1_rowWith : Room := { frames := 2, cells := 0, slots := 0, locals := 42 }
theorem e_X1_rowWith : yX1_rowWith.cls = RX1 ∧ yX1_rowWith.cls ≠ "java/lang/invoke/MethodHandle" ∧ yX1_rowWith.cls ≠ "java/lang/invoke/VarHandle" ∧ (parseMethodDescriptor yX1_rowWith.desc).map (fun d => d.parameters.length) = some 3 := by decide +kernel
set_option maxHeartbeats 4000000 in
set_option maxRecDepth 100000 in
theorem t_X1_rowWith_70 {l : Launch} {G : k_G} {p : Program} {e : Env} {s : State} {m : MethodId} {args : Array Value} {below : List Frame} {meth : Method} {c : Code} {A : Nat → Prop} {h_a0 h_a0_stacks h_a0_stacks_lengths h_a0_stacks_rows h_a0_unsurePlaces h_a0_unsureStacks : Nat} {g_a0_complete g_a0_near g_a0_second g_a0_third g_a0_growth g_a0_names g_a0_agreedCount g_a0_agreedStacks g_a0_agreedDistances g_a0_agreedLayers g_a0_stacks_count : Value} {out : Int32} (C0 : k_C G p s m args meth c A cX1_rowWith RX1 wsX1_rowWith 6 (some .int) "rowWith") (k22 : Int32 → Int32 → Int32 → Int32 → Int32 → Int32 → (Nat → Int32) → (Nat → Int32) → (Nat → Int32) → (Nat → Int32) → Option (Int32)) (hk22 : ∀ (x1 : Int32) (x2 : Int32) (x3 : Int32) (x4 : Int32) (x5 : Int32) (v_a0_unsureCount : Int32) (w_a0_stacks_lengths : Nat → Int32) (w_a0_stacks_rows : Nat → Int32) (w_a0_unsurePlaces : Nat → Int32) (w_a0_unsureStacks : Nat → Int32) (H : Heap) (locs : List Loc) (ls : Array Slot), va_P G.1 vwCl [(h_a0, .inr (2, [g_a0_complete, g_a0_near, g_a0_second, g_a0_third, g_a0_growth, .ref h_a0_stacks, g_a0_names, .int v_a0_unsureCount, .ref h_a0_unsureStacks, .ref h_a0_unsurePlaces, g_a0_agreedCount, g_a0_agreedStacks, g_a0_agreedDistances, g_a0_agreedLayers])), (h_a0_stacks, .inr (6, [.ref h_a0_stacks_rows, .ref h_a0_stacks_lengths, g_a0_stacks_count])), (h_a0_stacks_lengths, .inl (k_cI G, 5, .inl w_a0_stacks_lengths)), (h_a0_stacks_rows, .inl (k_cI G, 5, .inl w_a0_stacks_rows)), (h_a0_unsurePlaces, .inl (k_cI G, 4, .inl w_a0_unsurePlaces)), (h_a0_unsureStacks, .inl (k_cI G, 4, .inl w_a0_unsureStacks))] H → va_D A [(h_a0, .inr (2, [g_a0_complete, g_a0_near, g_a0_second, g_a0_third, g_a0_growth, .ref h_a0_stacks, g_a0_names, .int v_a0_unsureCount, .ref h_a0_unsureStacks, .ref h_a0_unsurePlaces, g_a0_agreedCount, g_a0_agreedStacks, g_a0_agreedDistances, g_a0_agreedLayers])), (h_a0_stacks, .inr (6, [.ref h_a0_stacks_rows, .ref h_a0_stacks_lengths, g_a0_stacks_count])), (h_a0_stacks_lengths, .inl (k_cI G, 5, .inl w_a0_stacks_lengths)), (h_a0_stacks_rows, .inl (k_cI G, 5, .inl w_a0_stacks_rows)), (h_a0_unsurePlaces, .inl (k_cI G, 4, .inl w_a0_unsurePlaces)), (h_a0_unsureStacks, .inl (k_cI G, 4, .inl w_a0_unsureStacks))] → va_S A s.heap H locs → lv_has ls 6 [(0, .ref h_a0), (1, .int x1), (2, .int x2), (3, .int x3), (4, .int x4), (5, .int x5)] → k22 x1 x2 x3 x4 x5 v_a0_unsureCount w_a0_stacks_lengths w_a0_stacks_rows w_a0_unsurePlaces w_a0_unsureStacks = some out → W p l e rm_X1_rowWith s m args below meth c H locs 0 0 (MQ below (k_Qi G A out (fun (_ : Unit) => [(h_a0, .inr (2, [g_a0_complete, g_a0_near, g_a0_second, g_a0_third, g_a0_growth, .ref h_a0_stacks, g_a0_names, .int v_a0_unsureCount, .ref h_a0_unsureStacks, .ref h_a0_unsurePlaces, g_a0_agreedCount, g_a0_agreedStacks, g_a0_agreedDistances, g_a0_agreedLayers])), (h_a0_stacks, .inr (6, [.ref h_a0_stacks_rows, .ref h_a0_stacks_lengths, g_a0_stacks_count])), (h_a0_stacks_lengths, .inl (k_cI G, 5, .inl w_a0_stacks_lengths)), (h_a0_stacks_rows, .inl (k_cI G, 5, .inl w_a0_stacks_rows)), (h_a0_unsurePlaces, .inl (k_cI G, 4, .inl w_a0_unsurePlaces)), (h_a0_unsureStacks, .inl (k_cI G, 4, .inl w_a0_unsureStacks))])) args s 0 0 A) (F0 m 22 ls [])) : ∀ (x1 : Int32) (x2 : Int32) (x3 : Int32) (x4 : Int32) (x5 : Int32) (v_a0_unsureCount : Int32) (w_a0_stacks_lengths : Nat → Int32) (w_a0_stacks_rows : Nat → Int32) (w_a0_unsurePlaces : Nat → Int32) (w_a0_unsureStacks : Nat → Int32) (H : Heap) (locs : List Loc) (ls : Array Slot), va_P G.1 vwCl [(h_a0, .inr (2, [g_a0_complete, g_a0_near, g_a0_second, g_a0_third, g_a0_growth, .ref h_a0_stacks, g_a0_names, .int v_a0_unsureCount, .ref h_a0_unsureStacks, .ref h_a0_unsurePlaces, g_a0_agreedCount, g_a0_agreedStacks, g_a0_agreedDistances, g_a0_agreedLayers])), (h_a0_stacks, .inr (6, [.ref h_a0_stacks_rows, .ref h_a0_stacks_lengths, g_a0_stacks_count])), (h_a0_stacks_lengths, .inl (k_cI G, 5, .inl w_a0_stacks_lengths)), (h_a0_stacks_rows, .inl (k_cI G, 5, .inl w_a0_stacks_rows)), (h_a0_unsurePlaces, .inl (k_cI G, 4, .inl w_a0_unsurePlaces)), (h_a0_unsureStacks, .inl (k_cI G, 4, .inl w_a0_unsureStacks))] H → va_D A [(h_a0, .inr (2, [g_a0_complete, g_a0_near, g_a0_second, g_a0_third, g_a0_growth, .ref h_a0_stacks, g_a0_names, .int v_a0_unsureCount, .ref h_a0_unsureStacks, .ref h_a0_unsurePlaces, g_a0_agreedCount, g_a0_agreedStacks, g_a0_agreedDistances, g_a0_agreedLayers])), (h_a0_stacks, .inr (6, [.ref h_a0_stacks_rows, .ref h_a0_stacks_lengths, g_a0_stacks_count])), (h_a0_stacks_lengths, .inl (k_cI G, 5, .inl w_a0_stacks_lengths)), (h_a0_stacks_rows, .inl (k_cI G, 5, .inl w_a0_stacks_rows)), (h_a0_unsurePlaces, .inl (k_cI G, 4, .inl w_a0_unsurePlaces)), (h_a0_unsureStacks, .inl (k_cI G, 4, .inl w_a0_unsureStacks))] → va_S A s.heap H locs → lv_has ls 6 [(0, .ref h_a0), (1, .int x1), (2, .int x2), (3, .int x3), (4, .int x4), (5, .int x5)] → f_X1_rowWith_70 k22 x1 x2 x3 x4 x5 v_a0_unsureCount w_a0_stacks_lengths w_a0_stacks_rows w_a0_unsurePlaces w_a0_unsureStacks = some out → W p l e rm_X1_rowWith s m args below meth c H locs 0 0 (MQ below (k_Qi G A out (fun (_ : Unit) => [(h_a0, .inr (2, [g_a0_complete, g_a0_near, g_a0_second, g_a0_third, g_a0_growth, .ref h_a0_stacks, g_a0_names, .int v_a0_unsureCount, .ref h_a0_unsureStacks, .ref h_a0_unsurePlaces, g_a0_agreedCount, g_a0_agreedStacks, g_a0_agreedDistances, g_a0_agreedLayers])), (h_a0_stacks, .inr (6, [.ref h_a0_stacks_rows, .ref h_a0_stacks_lengths, g_a0_stacks_count])), (h_a0_stacks_lengths, .inl (k_cI G, 5, .inl w_a0_stacks_lengths)), (h_a0_stacks_rows, .inl (k_cI G, 5, .inl w_a0_stacks_rows)), (h_a0_unsurePlaces, .inl (k_cI G, 4, .inl w_a0_unsurePlaces)), (h_a0_unsureStacks, .inl (k_cI G, 4, .inl w_a0_unsureStacks))])) args s 0 0 A) (F0 m 70 ls []) := by
  have hx := C0.1
  have hb := C0.2.1
  have hts := C0.2.2.2.1
  have hown := C0.2.2.2.2.1
  have hK := C0.2.2.2.2.2.2.2.2.1.1
  have hNW := C0.2.2.2.2.2.2.2.2.1.2.1
  have hSF := C0.2.2.2.2.2.2.2.2.1.2.2
  intro x1 x2 x3 x4 x5 v_a0_unsureCount w_a0_stacks_lengths w_a0_stacks_rows w_a0_unsurePlaces w_a0_unsureStacks H locs ls hP hD hS hl hrun
  rw [f_X1_rowWith_70] at hrun
  refine lv_iinc (v := x5 + 1) (lv' := [(5, .int (x5 + 1)), (0, .ref h_a0), (1, .int x1), (2, .int x2), (3, .int x3), (4, .int x4)]) hx hb dX1_rowWith_70 hl (k := 5) rfl rfl (by decide) rfl (fun ls hl => ?_)
  refine lv_goto (tgt := 22) hx hb dX1_rowWith_73 (by decide) ?_
  exact hk22 x1 x2 x3 x4 (x5 + 1) v_a0_unsureCount w_a0_stacks_lengths w_a0_stacks_rows w_a0_unsurePlaces w_a0_unsureStacks _ _ _ hP hD hS (lv_sub hl [1, 2, 3, 4, 5, 0] rfl) hrun
set_option maxHeartbeats 4000000 in
set_option maxRecDepth 100000 in
theorem t_X1_rowWith_22 {l : Launch} {G : k_G} {p : Program} {e : Env} {s : State} {m : MethodId} {args : Array Value} {below : List Frame} {meth : Method} {c : Code} {A : Nat → Prop} {h_a0 h_a0_stacks h_a0_stacks_lengths h_a0_stacks_rows h_a0_unsurePlaces h_a0_unsureStacks : Nat} {g_a0_complete g_a0_near g_a0_second g_a0_third g_a0_growth g_a0_names g_a0_agreedCount g_a0_agreedStacks g_a0_agreedDistances g_a0_agreedLayers g_a0_stacks_count : Value} {out : Int32} (C0 : k_C G p s m args meth c A cX1_rowWith RX1 wsX1_rowWith 6 (some .int) "rowWith") : ∀ (n : Nat) (x1 : Int32) (x2 : Int32) (x3 : Int32) (x4 : Int32) (x5 : Int32) (v_a0_unsureCount : Int32) (w_a0_stacks_lengths : Nat → Int32) (w_a0_stacks_rows : Nat → Int32) (w_a0_unsurePlaces : Nat → Int32) (w_a0_unsureStacks : Nat → Int32) (H : Heap) (locs : List Loc) (ls : Array Slot), va_P G.1 vwCl [(h_a0, .inr (2, [g_a0_complete, g_a0_near, g_a0_second, g_a0_third, g_a0_growth, .ref h_a0_stacks, g_a0_names, .int v_a0_unsureCount, .ref h_a0_unsureStacks, .ref h_a0_unsurePlaces, g_a0_agreedCount, g_a0_agreedStacks, g_a0_agreedDistances, g_a0_agreedLayers])), (h_a0_stacks, .inr (6, [.ref h_a0_stacks_rows, .ref h_a0_stacks_lengths, g_a0_stacks_count])), (h_a0_stacks_lengths, .inl (k_cI G, 5, .inl w_a0_stacks_lengths)), (h_a0_stacks_rows, .inl (k_cI G, 5, .inl w_a0_stacks_rows)), (h_a0_unsurePlaces, .inl (k_cI G, 4, .inl w_a0_unsurePlaces)), (h_a0_unsureStacks, .inl (k_cI G, 4, .inl w_a0_unsureStacks))] H → va_D A [(h_a0, .inr (2, [g_a0_complete, g_a0_near, g_a0_second, g_a0_third, g_a0_growth, .ref h_a0_stacks, g_a0_names, .int v_a0_unsureCount, .ref h_a0_unsureStacks, .ref h_a0_unsurePlaces, g_a0_agreedCount, g_a0_agreedStacks, g_a0_agreedDistances, g_a0_agreedLayers])), (h_a0_stacks, .inr (6, [.ref h_a0_stacks_rows, .ref h_a0_stacks_lengths, g_a0_stacks_count])), (h_a0_stacks_lengths, .inl (k_cI G, 5, .inl w_a0_stacks_lengths)), (h_a0_stacks_rows, .inl (k_cI G, 5, .inl w_a0_stacks_rows)), (h_a0_unsurePlaces, .inl (k_cI G, 4, .inl w_a0_unsurePlaces)), (h_a0_unsureStacks, .inl (k_cI G, 4, .inl w_a0_unsureStacks))] → va_S A s.heap H locs → lv_has ls 6 [(0, .ref h_a0), (1, .int x1), (2, .int x2), (3, .int x3), (4, .int x4), (5, .int x5)] → f_X1_rowWith_22 n x1 x2 x3 x4 x5 v_a0_unsureCount w_a0_stacks_lengths w_a0_stacks_rows w_a0_unsurePlaces w_a0_unsureStacks = some out → W p l e rm_X1_rowWith s m args below meth c H locs 0 0 (MQ below (k_Qi G A out (fun (_ : Unit) => [(h_a0, .inr (2, [g_a0_complete, g_a0_near, g_a0_second, g_a0_third, g_a0_growth, .ref h_a0_stacks, g_a0_names, .int v_a0_unsureCount, .ref h_a0_unsureStacks, .ref h_a0_unsurePlaces, g_a0_agreedCount, g_a0_agreedStacks, g_a0_agreedDistances, g_a0_agreedLayers])), (h_a0_stacks, .inr (6, [.ref h_a0_stacks_rows, .ref h_a0_stacks_lengths, g_a0_stacks_count])), (h_a0_stacks_lengths, .inl (k_cI G, 5, .inl w_a0_stacks_lengths)), (h_a0_stacks_rows, .inl (k_cI G, 5, .inl w_a0_stacks_rows)), (h_a0_unsurePlaces, .inl (k_cI G, 4, .inl w_a0_unsurePlaces)), (h_a0_unsureStacks, .inl (k_cI G, 4, .inl w_a0_unsureStacks))])) args s 0 0 A) (F0 m 22 ls []) := by
  have hx := C0.1
  have hb := C0.2.1
  have hts := C0.2.2.2.1
  have hown := C0.2.2.2.2.1
  have hK := C0.2.2.2.2.2.2.2.2.1.1
  have hNW := C0.2.2.2.2.2.2.2.2.1.2.1
  have hSF := C0.2.2.2.2.2.2.2.2.1.2.2
  intro n
  induction n with
  | zero =>
    intro x1 x2 x3 x4 x5 v_a0_unsureCount w_a0_stacks_lengths w_a0_stacks_rows w_a0_unsurePlaces w_a0_unsureStacks H locs ls hP hD hS hl hrun
    rw [f_X1_rowWith_22] at hrun
    cases hrun
  | succ n ih =>
    intro x1 x2 x3 x4 x5 v_a0_unsureCount w_a0_stacks_lengths w_a0_stacks_rows w_a0_unsurePlaces w_a0_unsureStacks H locs ls hP hD hS hl hrun
    rw [f_X1_rowWith_22] at hrun
    refine lv_iload hx hb dX1_rowWith_22 (lv_at hl 5 rfl) ?_
    refine lv_aload_n hx hb dX1_rowWith_24 rfl (lv_at hl 0 rfl) ?_
    refine va_getN (D := G.1) (ci := 2) (v := .int v_a0_unsureCount) (C := RX4) (T := TX4) (N := 14) hx hb hts n_X1_rowWith_X4 hown hK hP 0 rfl rfl 7 (by decide) (va_Nw.use rfl (k_nw hNW 44 nw_X1_rowWith_44)) (fun _ h9 => h9) rfl dX1_rowWith_25 ?_
    refine lv_icmp_ge (tgt := 76) hx hb dX1_rowWith_28 (by decide) (fun q1 => ?_) (fun q1 => ?_)
    · replace hrun := if_t q1 hrun
      refine lv_iload_n hx hb dX1_rowWith_76 rfl (lv_at hl 3 rfl) ?_
      obtain rfl := Option.some.inj hrun
      exact k_reti C0 hP hD hS () rfl rfl dX1_rowWith_77
    · replace hrun := if_f q1 hrun
      refine lv_iload_n hx hb dX1_rowWith_31 rfl (lv_at hl 2 rfl) ?_
      refine lv_iload hx hb dX1_rowWith_32 (lv_at hl 5 rfl) ?_
      obtain ⟨t2, et2, hrun⟩ := bd_inv hrun
      refine k_calli0 C0 (k_runS (rest := []) C0 (c_X1_has et2) (va_cwS 2 hts gX1_rowWith_X1_has rfl rfl rfl e_X1_has.2 ⟨Nat.le_of_ble_eq_true rfl, Nat.le_of_ble_eq_true rfl⟩) hP hD hS [] rfl (by decide) rfl hl.1 rfl (Nat.le_of_ble_eq_true rfl) dX1_rowWith_34 ⟨Nat.le_of_ble_eq_true rfl, Nat.le_of_ble_eq_true rfl⟩) hP hS (fun H locs hP hS => ?_)
      refine lv_if_eq (tgt := 70) hx hb dX1_rowWith_37 (by decide) (fun q3 => ?_) (fun q3 => ?_)
      · replace hrun := if_t q3 hrun
        exact t_X1_rowWith_70 C0 (fun x1 x2 x3 x4 x5 v_a0_unsureCount w_a0_stacks_lengths w_a0_stacks_rows w_a0_unsurePlaces w_a0_unsureStacks => f_X1_rowWith_22 n x1 x2 x3 x4 x5 v_a0_unsureCount w_a0_stacks_lengths w_a0_stacks_rows w_a0_unsurePlaces w_a0_unsureStacks) ih x1 x2 x3 x4 x5 v_a0_unsureCount w_a0_stacks_lengths w_a0_stacks_rows w_a0_unsurePlaces w_a0_unsureStacks _ _ _ hP hD hS hl hrun
      · replace hrun := if_f q3 hrun
        refine lv_aload_n hx hb dX1_rowWith_40 rfl (lv_at hl 0 rfl) ?_
        refine va_getN (D := G.1) (ci := 2) (v := .ref h_a0_unsureStacks) (C := RX4) (T := TX4) (N := 14) hx hb hts n_X1_rowWith_X4 hown hK hP 0 rfl rfl 8 (by decide) (va_Nw.use rfl (k_nw hNW 42 nw_X1_rowWith_42)) (fun _ h9 => h9) rfl dX1_rowWith_41 ?_
        refine lv_iload hx hb dX1_rowWith_44 (lv_at hl 5 rfl) ?_
        obtain ⟨t4, et4, hrun⟩ := bd_inv hrun
        refine k_calli (w2 := fun (_ : Unit) => [(h_a0, .inr (2, [g_a0_complete, g_a0_near, g_a0_second, g_a0_third, g_a0_growth, .ref h_a0_stacks, g_a0_names, .int v_a0_unsureCount, .ref h_a0_unsureStacks, .ref h_a0_unsurePlaces, g_a0_agreedCount, g_a0_agreedStacks, g_a0_agreedDistances, g_a0_agreedLayers])), (h_a0_stacks, .inr (6, [.ref h_a0_stacks_rows, .ref h_a0_stacks_lengths, g_a0_stacks_count])), (h_a0_stacks_lengths, .inl (k_cI G, 5, .inl w_a0_stacks_lengths)), (h_a0_stacks_rows, .inl (k_cI G, 5, .inl w_a0_stacks_rows)), (h_a0_unsurePlaces, .inl (k_cI G, 4, .inl w_a0_unsurePlaces)), (h_a0_unsureStacks, .inl (k_cI G, 4, .inl w_a0_unsureStacks))]) C0 (k_runSN (rest := []) C0 (c_X11_at et4) (va_cnB 2 hts gX1_rowWith_X11_at_n32 rfl rfl rfl (k_nw hNW 9 nw_X1_rowWith_9) (hts _ u_X1_rowWith_8) e_X11_at.2 ⟨Nat.le_of_ble_eq_true rfl, Nat.le_of_ble_eq_true rfl⟩) (hts _ u_X1_rowWith_7) hP hD hS [5] rfl (by decide) rfl hl.1 rfl (Nat.le_of_ble_eq_true rfl) dX1_rowWith_46 ⟨Nat.le_of_ble_eq_true rfl, Nat.le_of_ble_eq_true rfl⟩) hP hD hS [5] [0, 1, 2, 3, 4] rfl rfl (by decide) (by decide) [0, 1, 2, 3, 4, 5] (by decide) (fun _ => rfl) (fun _ H locs hP hD hS => ?_)
        have hP : va_P G.1 vwCl [(h_a0, .inr (2, [g_a0_complete, g_a0_near, g_a0_second, g_a0_third, g_a0_growth, .ref h_a0_stacks, g_a0_names, .int v_a0_unsureCount, .ref h_a0_unsureStacks, .ref h_a0_unsurePlaces, g_a0_agreedCount, g_a0_agreedStacks, g_a0_agreedDistances, g_a0_agreedLayers])), (h_a0_stacks, .inr (6, [.ref h_a0_stacks_rows, .ref h_a0_stacks_lengths, g_a0_stacks_count])), (h_a0_stacks_lengths, .inl (k_cI G, 5, .inl w_a0_stacks_lengths)), (h_a0_stacks_rows, .inl (k_cI G, 5, .inl w_a0_stacks_rows)), (h_a0_unsurePlaces, .inl (k_cI G, 4, .inl w_a0_unsurePlaces)), (h_a0_unsureStacks, .inl (k_cI G, 4, .inl w_a0_unsureStacks))] H := hP
        have hD : va_D A [(h_a0, .inr (2, [g_a0_complete, g_a0_near, g_a0_second, g_a0_third, g_a0_growth, .ref h_a0_stacks, g_a0_names, .int v_a0_unsureCount, .ref h_a0_unsureStacks, .ref h_a0_unsurePlaces, g_a0_agreedCount, g_a0_agreedStacks, g_a0_agreedDistances, g_a0_agreedLayers])), (h_a0_stacks, .inr (6, [.ref h_a0_stacks_rows, .ref h_a0_stacks_lengths, g_a0_stacks_count])), (h_a0_stacks_lengths, .inl (k_cI G, 5, .inl w_a0_stacks_lengths)), (h_a0_stacks_rows, .inl (k_cI G, 5, .inl w_a0_stacks_rows)), (h_a0_unsurePlaces, .inl (k_cI G, 4, .inl w_a0_unsurePlaces)), (h_a0_unsureStacks, .inl (k_cI G, 4, .inl w_a0_unsureStacks))] := hD
        refine lv_iload_n hx hb dX1_rowWith_49 rfl (lv_at hl 1 rfl) ?_
        refine lv_icmp_ne (tgt := 70) hx hb dX1_rowWith_50 (by decide) (fun q5 => ?_) (fun q5 => ?_)
        · replace hrun := if_f q5 hrun
          exact t_X1_rowWith_70 C0 (fun x1 x2 x3 x4 x5 v_a0_unsureCount w_a0_stacks_lengths w_a0_stacks_rows w_a0_unsurePlaces w_a0_unsureStacks => f_X1_rowWith_22 n x1 x2 x3 x4 x5 v_a0_unsureCount w_a0_stacks_lengths w_a0_stacks_rows w_a0_unsurePlaces w_a0_unsureStacks) ih x1 x2 x3 x4 x5 v_a0_unsureCount w_a0_stacks_lengths w_a0_stacks_rows w_a0_unsurePlaces w_a0_unsureStacks _ _ _ hP hD hS hl hrun
        · replace hrun := if_t q5 hrun
          refine lv_iload_n hx hb dX1_rowWith_53 rfl (lv_at hl 3 rfl) ?_
          refine lv_iload hx hb dX1_rowWith_54 (lv_at hl 4 rfl) ?_
          refine lv_aload_n hx hb dX1_rowWith_56 rfl (lv_at hl 0 rfl) ?_
          refine va_getN (D := G.1) (ci := 2) (v := .ref h_a0_unsurePlaces) (C := RX4) (T := TX4) (N := 14) hx hb hts n_X1_rowWith_X4 hown hK hP 0 rfl rfl 9 (by decide) (va_Nw.use rfl (k_nw hNW 43 nw_X1_rowWith_43)) (fun _ h9 => h9) rfl dX1_rowWith_57 ?_
          refine lv_iload hx hb dX1_rowWith_60 (lv_at hl 5 rfl) ?_
          obtain ⟨t6, et6, hrun⟩ := bd_inv hrun
          refine k_calli (w2 := fun (_ : Unit) => [(h_a0, .inr (2, [g_a0_complete, g_a0_near, g_a0_second, g_a0_third, g_a0_growth, .ref h_a0_stacks, g_a0_names, .int v_a0_unsureCount, .ref h_a0_unsureStacks, .ref h_a0_unsurePlaces, g_a0_agreedCount, g_a0_agreedStacks, g_a0_agreedDistances, g_a0_agreedLayers])), (h_a0_stacks, .inr (6, [.ref h_a0_stacks_rows, .ref h_a0_stacks_lengths, g_a0_stacks_count])), (h_a0_stacks_lengths, .inl (k_cI G, 5, .inl w_a0_stacks_lengths)), (h_a0_stacks_rows, .inl (k_cI G, 5, .inl w_a0_stacks_rows)), (h_a0_unsurePlaces, .inl (k_cI G, 4, .inl w_a0_unsurePlaces)), (h_a0_unsureStacks, .inl (k_cI G, 4, .inl w_a0_unsureStacks))]) C0 (k_runSN (rest := [.int x4, .int x3]) C0 (c_X11_at et6) (va_cnB 2 hts gX1_rowWith_X11_at_n32 rfl rfl rfl (k_nw hNW 9 nw_X1_rowWith_9) (hts _ u_X1_rowWith_8) e_X11_at.2 ⟨Nat.le_of_ble_eq_true rfl, Nat.le_of_ble_eq_true rfl⟩) (hts _ u_X1_rowWith_7) hP hD hS [4] rfl (by decide) rfl hl.1 rfl (Nat.le_of_ble_eq_true rfl) dX1_rowWith_62 ⟨Nat.le_of_ble_eq_true rfl, Nat.le_of_ble_eq_true rfl⟩) hP hD hS [4] [0, 1, 2, 3, 5] rfl rfl (by decide) (by decide) [0, 1, 2, 3, 5, 4] (by decide) (fun _ => rfl) (fun _ H locs hP hD hS => ?_)
          have hP : va_P G.1 vwCl [(h_a0, .inr (2, [g_a0_complete, g_a0_near, g_a0_second, g_a0_third, g_a0_growth, .ref h_a0_stacks, g_a0_names, .int v_a0_unsureCount, .ref h_a0_unsureStacks, .ref h_a0_unsurePlaces, g_a0_agreedCount, g_a0_agreedStacks, g_a0_agreedDistances, g_a0_agreedLayers])), (h_a0_stacks, .inr (6, [.ref h_a0_stacks_rows, .ref h_a0_stacks_lengths, g_a0_stacks_count])), (h_a0_stacks_lengths, .inl (k_cI G, 5, .inl w_a0_stacks_lengths)), (h_a0_stacks_rows, .inl (k_cI G, 5, .inl w_a0_stacks_rows)), (h_a0_unsurePlaces, .inl (k_cI G, 4, .inl w_a0_unsurePlaces)), (h_a0_unsureStacks, .inl (k_cI G, 4, .inl w_a0_unsureStacks))] H := hP
          have hD : va_D A [(h_a0, .inr (2, [g_a0_complete, g_a0_near, g_a0_second, g_a0_third, g_a0_growth, .ref h_a0_stacks, g_a0_names, .int v_a0_unsureCount, .ref h_a0_unsureStacks, .ref h_a0_unsurePlaces, g_a0_agreedCount, g_a0_agreedStacks, g_a0_agreedDistances, g_a0_agreedLayers])), (h_a0_stacks, .inr (6, [.ref h_a0_stacks_rows, .ref h_a0_stacks_lengths, g_a0_stacks_count])), (h_a0_stacks_lengths, .inl (k_cI G, 5, .inl w_a0_stacks_lengths)), (h_a0_stacks_rows, .inl (k_cI G, 5, .inl w_a0_stacks_rows)), (h_a0_unsurePlaces, .inl (k_cI G, 4, .inl w_a0_unsurePlaces)), (h_a0_unsureStacks, .inl (k_cI G, 4, .inl w_a0_unsureStacks))] := hD
          obtain ⟨t7, et7, hrun⟩ := bd_inv hrun
          refine k_calli0 C0 (k_runS (rest := [.int x3]) C0 (c_X8_bit et7) (va_cwS 2 hts gX1_rowWith_X8_bit rfl rfl rfl e_X8_bit.2 ⟨Nat.le_of_ble_eq_true rfl, Nat.le_of_ble_eq_true rfl⟩) hP hD hS [] rfl (by decide) rfl hl.1 rfl (Nat.le_of_ble_eq_true rfl) dX1_rowWith_65 ⟨Nat.le_of_ble_eq_true rfl, Nat.le_of_ble_eq_true rfl⟩) hP hS (fun H locs hP hS => ?_)
          refine lv_ixor hx hb dX1_rowWith_68 ?_
          obtain ⟨n8, en, hrun⟩ := lt_inv hrun
          refine k_nmi en ?_
          clear en
          refine lv_istore_n (lv' := [(3, .int n8), (0, .ref h_a0), (1, .int x1), (2, .int x2), (4, .int x4), (5, .int x5)]) hx hb dX1_rowWith_69 rfl hl (by decide) rfl (fun ls hl => ?_)
          exact t_X1_rowWith_70 C0 (fun x1 x2 x3 x4 x5 v_a0_unsureCount w_a0_stacks_lengths w_a0_stacks_rows w_a0_unsurePlaces w_a0_unsureStacks => f_X1_rowWith_22 n x1 x2 x3 x4 x5 v_a0_unsureCount w_a0_stacks_lengths w_a0_stacks_rows w_a0_unsurePlaces w_a0_unsureStacks) ih x1 x2 n8 x4 x5 v_a0_unsureCount w_a0_stacks_lengths w_a0_stacks_rows w_a0_unsurePlaces w_a0_unsureStacks _ _ _ hP hD hS (lv_sub hl [1, 2, 3, 0, 4, 5] rfl) hrun
set_option maxHeartbeats 4000000 in
set_option maxRecDepth 100000 in
theorem c_X1_rowWith {l : Launch} {G : k_G} {h_a0 h_a0_stacks h_a0_stacks_lengths h_a0_stacks_rows h_a0_unsurePlaces h_a0_unsureStacks : Nat} {g_a0_complete g_a0_near g_a0_second g_a0_third g_a0_growth g_a0_names g_a0_agreedCount g_a0_agreedStacks g_a0_agreedDistances g_a0_agreedLayers g_a0_stacks_count : Value} {sz : Nat} {p1 : Int32} {p2 : Int32} {v_a0_unsureCount : Int32} {w_a0_stacks_lengths : Nat → Int32} {w_a0_stacks_rows : Nat → Int32} {w_a0_unsurePlaces : Nat → Int32} {w_a0_unsureStacks : Nat → Int32} {out : Int32} (hrun : f_X1_rowWith p1 p2 v_a0_unsureCount w_a0_stacks_lengths w_a0_stacks_rows w_a0_unsurePlaces w_a0_unsureStacks = some out) : k_Ci l G yX1_rowWith wsX1_rowWith rm_X1_rowWith [.ref h_a0, .int p1, .int p2] [(h_a0, .inr (2, [g_a0_complete, g_a0_near, g_a0_second, g_a0_third, g_a0_growth, .ref h_a0_stacks, g_a0_names, .int v_a0_unsureCount, .ref h_a0_unsureStacks, .ref h_a0_unsurePlaces, g_a0_agreedCount, g_a0_agreedStacks, g_a0_agreedDistances, g_a0_agreedLayers])), (h_a0_stacks, .inr (6, [.ref h_a0_stacks_rows, .ref h_a0_stacks_lengths, g_a0_stacks_count])), (h_a0_stacks_lengths, .inl (k_cI G, 5, .inl w_a0_stacks_lengths)), (h_a0_stacks_rows, .inl (k_cI G, 5, .inl w_a0_stacks_rows)), (h_a0_unsurePlaces, .inl (k_cI G, 4, .inl w_a0_unsurePlaces)), (h_a0_unsureStacks, .inl (k_cI G, 4, .inl w_a0_unsureStacks))] sz out (fun (_ : Unit) => [(h_a0, .inr (2, [g_a0_complete, g_a0_near, g_a0_second, g_a0_third, g_a0_growth, .ref h_a0_stacks, g_a0_names, .int v_a0_unsureCount, .ref h_a0_unsureStacks, .ref h_a0_unsurePlaces, g_a0_agreedCount, g_a0_agreedStacks, g_a0_agreedDistances, g_a0_agreedLayers])), (h_a0_stacks, .inr (6, [.ref h_a0_stacks_rows, .ref h_a0_stacks_lengths, g_a0_stacks_count])), (h_a0_stacks_lengths, .inl (k_cI G, 5, .inl w_a0_stacks_lengths)), (h_a0_stacks_rows, .inl (k_cI G, 5, .inl w_a0_stacks_rows)), (h_a0_unsurePlaces, .inl (k_cI G, 4, .inl w_a0_unsurePlaces)), (h_a0_unsureStacks, .inl (k_cI G, 4, .inl w_a0_unsureStacks))]) 0 0 := by
  refine k_of (cc := cX1_rowWith) (nL := 6) (ret := some .int) (own := RX1) (nm := "rowWith") (by decide) rfl rfl rfl rfl ?_
  intro p e s m args below meth c ls hsz C0 hP hD hS hl
  have hl : lv_has ls 6 [(0, .ref h_a0), (1, .int p1), (2, .int p2)] := hl
  generalize hH : s.heap = H at hP
  have hS : va_S (va_A [(h_a0, .inr (2, [g_a0_complete, g_a0_near, g_a0_second, g_a0_third, g_a0_growth, .ref h_a0_stacks, g_a0_names, .int v_a0_unsureCount, .ref h_a0_unsureStacks, .ref h_a0_unsurePlaces, g_a0_agreedCount, g_a0_agreedStacks, g_a0_agreedDistances, g_a0_agreedLayers])), (h_a0_stacks, .inr (6, [.ref h_a0_stacks_rows, .ref h_a0_stacks_lengths, g_a0_stacks_count])), (h_a0_stacks_lengths, .inl (k_cI G, 5, .inl w_a0_stacks_lengths)), (h_a0_stacks_rows, .inl (k_cI G, 5, .inl w_a0_stacks_rows)), (h_a0_unsurePlaces, .inl (k_cI G, 4, .inl w_a0_unsurePlaces)), (h_a0_unsureStacks, .inl (k_cI G, 4, .inl w_a0_unsureStacks))] sz) s.heap H [] := by rw [← hH]; exact hS
  clear hH
  generalize va_A [(h_a0, .inr (2, [g_a0_complete, g_a0_near, g_a0_second, g_a0_third, g_a0_growth, .ref h_a0_stacks, g_a0_names, .int v_a0_unsureCount, .ref h_a0_unsureStacks, .ref h_a0_unsurePlaces, g_a0_agreedCount, g_a0_agreedStacks, g_a0_agreedDistances, g_a0_agreedLayers])), (h_a0_stacks, .inr (6, [.ref h_a0_stacks_rows, .ref h_a0_stacks_lengths, g_a0_stacks_count])), (h_a0_stacks_lengths, .inl (k_cI G, 5, .inl w_a0_stacks_lengths)), (h_a0_stacks_rows, .inl (k_cI G, 5, .inl w_a0_stacks_rows)), (h_a0_unsurePlaces, .inl (k_cI G, 4, .inl w_a0_unsurePlaces)), (h_a0_unsureStacks, .inl (k_cI G, 4, .inl w_a0_unsureStacks))] sz = A at C0 hD hS ⊢
  have hx := C0.1
  have hb := C0.2.1
  have hts := C0.2.2.2.1
  have hown := C0.2.2.2.2.1
  have hK := C0.2.2.2.2.2.2.2.2.1.1
  have hNW := C0.2.2.2.2.2.2.2.2.1.2.1
  have hSF := C0.2.2.2.2.2.2.2.2.1.2.2
  rw [f_X1_rowWith] at hrun
  refine lv_aload_n hx hb dX1_rowWith_0 rfl (lv_at hl 0 rfl) ?_
  refine va_getN (D := G.1) (ci := 2) (v := .ref h_a0_stacks) (C := RX4) (T := TX4) (N := 14) hx hb hts n_X1_rowWith_X4 hown hK hP 0 rfl rfl 5 (by decide) (va_Nw.use rfl (k_nw hNW 39 nw_X1_rowWith_39)) (fun _ h9 => h9) rfl dX1_rowWith_1 ?_
  refine lv_iload_n hx hb dX1_rowWith_4 rfl (lv_at hl 1 rfl) ?_
  obtain ⟨t1, et1, hrun⟩ := bd_inv hrun
  refine k_calli (w2 := fun (_ : Unit) => [(h_a0, .inr (2, [g_a0_complete, g_a0_near, g_a0_second, g_a0_third, g_a0_growth, .ref h_a0_stacks, g_a0_names, .int v_a0_unsureCount, .ref h_a0_unsureStacks, .ref h_a0_unsurePlaces, g_a0_agreedCount, g_a0_agreedStacks, g_a0_agreedDistances, g_a0_agreedLayers])), (h_a0_stacks, .inr (6, [.ref h_a0_stacks_rows, .ref h_a0_stacks_lengths, g_a0_stacks_count])), (h_a0_stacks_lengths, .inl (k_cI G, 5, .inl w_a0_stacks_lengths)), (h_a0_stacks_rows, .inl (k_cI G, 5, .inl w_a0_stacks_rows)), (h_a0_unsurePlaces, .inl (k_cI G, 4, .inl w_a0_unsurePlaces)), (h_a0_unsureStacks, .inl (k_cI G, 4, .inl w_a0_unsureStacks))]) C0 (k_runV (rest := []) C0 (c_X9_row et1) (cwV 1 hts gX1_rowWith_X9_row rfl rfl rfl e_X9_row ⟨Nat.le_of_ble_eq_true rfl, Nat.le_of_ble_eq_true rfl⟩) hP hD hS [1, 3] rfl (by decide) 1 (qc := (RX9, TX9, 3)) rfl rfl rfl rfl hl.1 rfl (Nat.le_of_ble_eq_true rfl) dX1_rowWith_5 ⟨Nat.le_of_ble_eq_true rfl, Nat.le_of_ble_eq_true rfl⟩) hP hD hS [1, 3] [0, 2, 4, 5] rfl rfl (by decide) (by decide) [0, 4, 1, 5, 2, 3] (by decide) (fun _ => rfl) (fun _ H locs hP hD hS => ?_)
  have hP : va_P G.1 vwCl [(h_a0, .inr (2, [g_a0_complete, g_a0_near, g_a0_second, g_a0_third, g_a0_growth, .ref h_a0_stacks, g_a0_names, .int v_a0_unsureCount, .ref h_a0_unsureStacks, .ref h_a0_unsurePlaces, g_a0_agreedCount, g_a0_agreedStacks, g_a0_agreedDistances, g_a0_agreedLayers])), (h_a0_stacks, .inr (6, [.ref h_a0_stacks_rows, .ref h_a0_stacks_lengths, g_a0_stacks_count])), (h_a0_stacks_lengths, .inl (k_cI G, 5, .inl w_a0_stacks_lengths)), (h_a0_stacks_rows, .inl (k_cI G, 5, .inl w_a0_stacks_rows)), (h_a0_unsurePlaces, .inl (k_cI G, 4, .inl w_a0_unsurePlaces)), (h_a0_unsureStacks, .inl (k_cI G, 4, .inl w_a0_unsureStacks))] H := hP
  have hD : va_D A [(h_a0, .inr (2, [g_a0_complete, g_a0_near, g_a0_second, g_a0_third, g_a0_growth, .ref h_a0_stacks, g_a0_names, .int v_a0_unsureCount, .ref h_a0_unsureStacks, .ref h_a0_unsurePlaces, g_a0_agreedCount, g_a0_agreedStacks, g_a0_agreedDistances, g_a0_agreedLayers])), (h_a0_stacks, .inr (6, [.ref h_a0_stacks_rows, .ref h_a0_stacks_lengths, g_a0_stacks_count])), (h_a0_stacks_lengths, .inl (k_cI G, 5, .inl w_a0_stacks_lengths)), (h_a0_stacks_rows, .inl (k_cI G, 5, .inl w_a0_stacks_rows)), (h_a0_unsurePlaces, .inl (k_cI G, 4, .inl w_a0_unsurePlaces)), (h_a0_unsureStacks, .inl (k_cI G, 4, .inl w_a0_unsureStacks))] := hD
  refine lv_istore_n (lv' := [(3, .int t1), (0, .ref h_a0), (1, .int p1), (2, .int p2)]) hx hb dX1_rowWith_8 rfl hl (by decide) rfl (fun ls hl => ?_)
  refine lv_aload_n hx hb dX1_rowWith_9 rfl (lv_at hl 1 rfl) ?_
  refine va_getN (D := G.1) (ci := 2) (v := .ref h_a0_stacks) (C := RX4) (T := TX4) (N := 14) hx hb hts n_X1_rowWith_X4 hown hK hP 0 rfl rfl 5 (by decide) (va_Nw.use rfl (k_nw hNW 39 nw_X1_rowWith_39)) (fun _ h9 => h9) rfl dX1_rowWith_10 ?_
  refine lv_iload_n hx hb dX1_rowWith_13 rfl (lv_at hl 2 rfl) ?_
  obtain ⟨t2, et2, hrun⟩ := bd_inv hrun
  refine k_calli (w2 := fun (_ : Unit) => [(h_a0, .inr (2, [g_a0_complete, g_a0_near, g_a0_second, g_a0_third, g_a0_growth, .ref h_a0_stacks, g_a0_names, .int v_a0_unsureCount, .ref h_a0_unsureStacks, .ref h_a0_unsurePlaces, g_a0_agreedCount, g_a0_agreedStacks, g_a0_agreedDistances, g_a0_agreedLayers])), (h_a0_stacks, .inr (6, [.ref h_a0_stacks_rows, .ref h_a0_stacks_lengths, g_a0_stacks_count])), (h_a0_stacks_lengths, .inl (k_cI G, 5, .inl w_a0_stacks_lengths)), (h_a0_stacks_rows, .inl (k_cI G, 5, .inl w_a0_stacks_rows)), (h_a0_unsurePlaces, .inl (k_cI G, 4, .inl w_a0_unsurePlaces)), (h_a0_unsureStacks, .inl (k_cI G, 4, .inl w_a0_unsureStacks))]) C0 (k_runV (rest := []) C0 (c_X9_steps et2) (cwV 1 hts gX1_rowWith_X9_steps rfl rfl rfl e_X9_steps ⟨Nat.le_of_ble_eq_true rfl, Nat.le_of_ble_eq_true rfl⟩) hP hD hS [1, 2] rfl (by decide) 1 (qc := (RX9, TX9, 3)) rfl rfl rfl rfl hl.1 rfl (Nat.le_of_ble_eq_true rfl) dX1_rowWith_14 ⟨Nat.le_of_ble_eq_true rfl, Nat.le_of_ble_eq_true rfl⟩) hP hD hS [1, 2] [0, 3, 4, 5] rfl rfl (by decide) (by decide) [0, 4, 5, 1, 2, 3] (by decide) (fun _ => rfl) (fun _ H locs hP hD hS => ?_)
  have hP : va_P G.1 vwCl [(h_a0, .inr (2, [g_a0_complete, g_a0_near, g_a0_second, g_a0_third, g_a0_growth, .ref h_a0_stacks, g_a0_names, .int v_a0_unsureCount, .ref h_a0_unsureStacks, .ref h_a0_unsurePlaces, g_a0_agreedCount, g_a0_agreedStacks, g_a0_agreedDistances, g_a0_agreedLayers])), (h_a0_stacks, .inr (6, [.ref h_a0_stacks_rows, .ref h_a0_stacks_lengths, g_a0_stacks_count])), (h_a0_stacks_lengths, .inl (k_cI G, 5, .inl w_a0_stacks_lengths)), (h_a0_stacks_rows, .inl (k_cI G, 5, .inl w_a0_stacks_rows)), (h_a0_unsurePlaces, .inl (k_cI G, 4, .inl w_a0_unsurePlaces)), (h_a0_unsureStacks, .inl (k_cI G, 4, .inl w_a0_unsureStacks))] H := hP
  have hD : va_D A [(h_a0, .inr (2, [g_a0_complete, g_a0_near, g_a0_second, g_a0_third, g_a0_growth, .ref h_a0_stacks, g_a0_names, .int v_a0_unsureCount, .ref h_a0_unsureStacks, .ref h_a0_unsurePlaces, g_a0_agreedCount, g_a0_agreedStacks, g_a0_agreedDistances, g_a0_agreedLayers])), (h_a0_stacks, .inr (6, [.ref h_a0_stacks_rows, .ref h_a0_stacks_lengths, g_a0_stacks_count])), (h_a0_stacks_lengths, .inl (k_cI G, 5, .inl w_a0_stacks_lengths)), (h_a0_stacks_rows, .inl (k_cI G, 5, .inl w_a0_stacks_rows)), (h_a0_unsurePlaces, .inl (k_cI G, 4, .inl w_a0_unsurePlaces)), (h_a0_unsureStacks, .inl (k_cI G, 4, .inl w_a0_unsureStacks))] := hD
  refine lv_istore (lv' := [(4, .int t2), (3, .int t1), (0, .ref h_a0), (1, .int p1), (2, .int p2)]) hx hb dX1_rowWith_17 hl (by decide) rfl (fun ls hl => ?_)
  refine lv_iconst (v := 0) hx hb dX1_rowWith_19 (by decide) ?_
  refine lv_istore (lv' := [(5, .int (0 : Int32)), (4, .int t2), (3, .int t1), (0, .ref h_a0), (1, .int p1), (2, .int p2)]) hx hb dX1_rowWith_20 hl (by decide) rfl (fun ls hl => ?_)
  exact t_X1_rowWith_22 C0 kFU p1 p2 t1 t2 (0 : Int32) v_a0_unsureCount w_a0_stacks_lengths w_a0_stacks_rows w_a0_unsurePlaces w_a0_unsureStacks _ _ _ hP hD hS (lv_sub hl [3, 4, 5, 2, 1, 0] rfl) hrun
theorem u_X1_isSo_1 : (Cond.static yX11_at) ∈ wsX1_isSo := List.mem_of_getElem? (i := 1) (by decide +kernel)
theorem u_X1_isSo_2 : (Cond.initialized RX11) ∈ wsX1_isSo := List.mem_of_getElem? (i := 2) (by decide +kernel)
theorem n_X1_isSo_X4 : ∀ w ∈ u_ws RX4 TX4 14, w ∈ wsX1_isSo := by decide +kernel
theorem nw_X1_isSo_9 : k_nest[9]? = some (.methodLinkNest RX1 32 yX11_at "ClosePacking") := rfl
theorem nw_X1_isSo_38 : k_nest[38]? = some (.fieldLinkNest RX1 28 "ClosePacking$Lab" "agreedStacks" "[I" "ClosePacking") := rfl
theorem nw_X1_isSo_39 : k_nest[39]? = some (.fieldLinkNest RX1 36 "ClosePacking$Lab" "stacks" "LClosePacking$Stacks;" "ClosePacking") := rfl
theorem nw_X1_isSo_40 : k_nest[40]? = some (.fieldLinkNest RX1 50 "ClosePacking$Lab" "agreedDistances" "[I" "ClosePacking") := rfl
theorem nw_X1_isSo_41 : k_nest[41]? = some (.fieldLinkNest RX1 59 "ClosePacking$Lab" "agreedLayers" "[I" "ClosePacking") := rfl
abbrev rm_X1_isSo : Room := { frames := 4, cells := 0, slots := 0, locals := 90 }
theorem e_X1_isSo : yX1_isSo.cls = RX1 ∧ yX1_isSo.cls ≠ "java/lang/invoke/MethodHandle" ∧ yX1_isSo.cls ≠ "java/lang/invoke/VarHandle" ∧ (parseMethodDescriptor yX1_isSo.desc).map (fun d => d.parameters.length) = some 3 := by decide +kernel
set_option maxHeartbeats 4000000 in
set_option maxRecDepth 100000 in
theorem c_X1_isSo {l : Launch} {G : k_G} {h_a0 h_a0_agreedDistances h_a0_agreedLayers h_a0_agreedStacks h_a0_stacks h_a0_stacks_lengths h_a0_stacks_rows h_a0_unsurePlaces h_a0_unsureStacks : Nat} {g_a0_complete g_a0_near g_a0_second g_a0_third g_a0_growth g_a0_names g_a0_agreedCount g_a0_stacks_count : Value} {sz : Nat} {p1 : Int32} {p2 : Int32} {v_a0_unsureCount : Int32} {w_a0_agreedDistances : Nat → Int32} {w_a0_agreedLayers : Nat → Int32} {w_a0_agreedStacks : Nat → Int32} {w_a0_stacks_lengths : Nat → Int32} {w_a0_stacks_rows : Nat → Int32} {w_a0_unsurePlaces : Nat → Int32} {w_a0_unsureStacks : Nat → Int32} {out : Int32} (hrun : f_X1_isSo p1 p2 v_a0_unsureCount w_a0_agreedDistances w_a0_agreedLayers w_a0_agreedStacks w_a0_stacks_lengths w_a0_stacks_rows w_a0_unsurePlaces w_a0_unsureStacks = some out) : k_Ci l G yX1_isSo wsX1_isSo rm_X1_isSo [.ref h_a0, .int p1, .int p2] [(h_a0, .inr (2, [g_a0_complete, g_a0_near, g_a0_second, g_a0_third, g_a0_growth, .ref h_a0_stacks, g_a0_names, .int v_a0_unsureCount, .ref h_a0_unsureStacks, .ref h_a0_unsurePlaces, g_a0_agreedCount, .ref h_a0_agreedStacks, .ref h_a0_agreedDistances, .ref h_a0_agreedLayers])), (h_a0_agreedDistances, .inl (k_cI G, 6, .inl w_a0_agreedDistances)), (h_a0_agreedLayers, .inl (k_cI G, 6, .inl w_a0_agreedLayers)), (h_a0_agreedStacks, .inl (k_cI G, 6, .inl w_a0_agreedStacks)), (h_a0_stacks, .inr (6, [.ref h_a0_stacks_rows, .ref h_a0_stacks_lengths, g_a0_stacks_count])), (h_a0_stacks_lengths, .inl (k_cI G, 5, .inl w_a0_stacks_lengths)), (h_a0_stacks_rows, .inl (k_cI G, 5, .inl w_a0_stacks_rows)), (h_a0_unsurePlaces, .inl (k_cI G, 4, .inl w_a0_unsurePlaces)), (h_a0_unsureStacks, .inl (k_cI G, 4, .inl w_a0_unsureStacks))] sz out (fun (_ : Unit) => [(h_a0, .inr (2, [g_a0_complete, g_a0_near, g_a0_second, g_a0_third, g_a0_growth, .ref h_a0_stacks, g_a0_names, .int v_a0_unsureCount, .ref h_a0_unsureStacks, .ref h_a0_unsurePlaces, g_a0_agreedCount, .ref h_a0_agreedStacks, .ref h_a0_agreedDistances, .ref h_a0_agreedLayers])), (h_a0_agreedDistances, .inl (k_cI G, 6, .inl w_a0_agreedDistances)), (h_a0_agreedLayers, .inl (k_cI G, 6, .inl w_a0_agreedLayers)), (h_a0_agreedStacks, .inl (k_cI G, 6, .inl w_a0_agreedStacks)), (h_a0_stacks, .inr (6, [.ref h_a0_stacks_rows, .ref h_a0_stacks_lengths, g_a0_stacks_count])), (h_a0_stacks_lengths, .inl (k_cI G, 5, .inl w_a0_stacks_lengths)), (h_a0_stacks_rows, .inl (k_cI G, 5, .inl w_a0_stacks_rows)), (h_a0_unsurePlaces, .inl (k_cI G, 4, .inl w_a0_unsurePlaces)), (h_a0_unsureStacks, .inl (k_cI G, 4, .inl w_a0_unsureStacks))]) 0 0 := by
  refine k_of (cc := cX1_isSo) (nL := 6) (ret := some .boolean) (own := RX1) (nm := "isSo") (by decide) rfl rfl rfl rfl ?_
  intro p e s m args below meth c ls hsz C0 hP hD hS hl
  have hl : lv_has ls 6 [(0, .ref h_a0), (1, .int p1), (2, .int p2)] := hl
  generalize hH : s.heap = H at hP
  have hS : va_S (va_A [(h_a0, .inr (2, [g_a0_complete, g_a0_near, g_a0_second, g_a0_third, g_a0_growth, .ref h_a0_stacks, g_a0_names, .int v_a0_unsureCount, .ref h_a0_unsureStacks, .ref h_a0_unsurePlaces, g_a0_agreedCount, .ref h_a0_agreedStacks, .ref h_a0_agreedDistances, .ref h_a0_agreedLayers])), (h_a0_agreedDistances, .inl (k_cI G, 6, .inl w_a0_agreedDistances)), (h_a0_agreedLayers, .inl (k_cI G, 6, .inl w_a0_agreedLayers)), (h_a0_agreedStacks, .inl (k_cI G, 6, .inl w_a0_agreedStacks)), (h_a0_stacks, .inr (6, [.ref h_a0_stacks_rows, .ref h_a0_stacks_lengths, g_a0_stacks_count])), (h_a0_stacks_lengths, .inl (k_cI G, 5, .inl w_a0_stacks_lengths)), (h_a0_stacks_rows, .inl (k_cI G, 5, .inl w_a0_stacks_rows)), (h_a0_unsurePlaces, .inl (k_cI G, 4, .inl w_a0_unsurePlaces)), (h_a0_unsureStacks, .inl (k_cI G, 4, .inl w_a0_unsureStacks))] sz) s.heap H [] := by rw [← hH]; exact hS
  clear hH
  generalize va_A [(h_a0, .inr (2, [g_a0_complete, g_a0_near, g_a0_second, g_a0_third, g_a0_growth, .ref h_a0_stacks, g_a0_names, .int v_a0_unsureCount, .ref h_a0_unsureStacks, .ref h_a0_unsurePlaces, g_a0_agreedCount, .ref h_a0_agreedStacks, .ref h_a0_agreedDistances, .ref h_a0_agreedLayers])), (h_a0_agreedDistances, .inl (k_cI G, 6, .inl w_a0_agreedDistances)), (h_a0_agreedLayers, .inl (k_cI G, 6, .inl w_a0_agreedLayers)), (h_a0_agreedStacks, .inl (k_cI G, 6, .inl w_a0_agreedStacks)), (h_a0_stacks, .inr (6, [.ref h_a0_stacks_rows, .ref h_a0_stacks_lengths, g_a0_stacks_count])), (h_a0_stacks_lengths, .inl (k_cI G, 5, .inl w_a0_stacks_lengths)), (h_a0_stacks_rows, .inl (k_cI G, 5, .inl w_a0_stacks_rows)), (h_a0_unsurePlaces, .inl (k_cI G, 4, .inl w_a0_unsurePlaces)), (h_a0_unsureStacks, .inl (k_cI G, 4, .inl w_a0_unsureStacks))] sz = A at C0 hD hS ⊢
  have hx := C0.1
  have hb := C0.2.1
  have hts := C0.2.2.2.1
  have hown := C0.2.2.2.2.1
  have hK := C0.2.2.2.2.2.2.2.2.1.1
  have hNW := C0.2.2.2.2.2.2.2.2.1.2.1
  have hSF := C0.2.2.2.2.2.2.2.2.1.2.2
  rw [f_X1_isSo] at hrun
  refine lv_aload_n hx hb dX1_isSo_0 rfl (lv_at hl 0 rfl) ?_
  refine va_getN (D := G.1) (ci := 2) (v := .ref h_a0_agreedStacks) (C := RX4) (T := TX4) (N := 14) hx hb hts n_X1_isSo_X4 hown hK hP 0 rfl rfl 11 (by decide) (va_Nw.use rfl (k_nw hNW 38 nw_X1_isSo_38)) (fun _ h9 => h9) rfl dX1_isSo_1 ?_
  refine lv_iload_n hx hb dX1_isSo_4 rfl (lv_at hl 1 rfl) ?_
  obtain ⟨t1, et1, hrun⟩ := bd_inv hrun
  refine k_calli (w2 := fun (_ : Unit) => [(h_a0, .inr (2, [g_a0_complete, g_a0_near, g_a0_second, g_a0_third, g_a0_growth, .ref h_a0_stacks, g_a0_names, .int v_a0_unsureCount, .ref h_a0_unsureStacks, .ref h_a0_unsurePlaces, g_a0_agreedCount, .ref h_a0_agreedStacks, .ref h_a0_agreedDistances, .ref h_a0_agreedLayers])), (h_a0_agreedDistances, .inl (k_cI G, 6, .inl w_a0_agreedDistances)), (h_a0_agreedLayers, .inl (k_cI G, 6, .inl w_a0_agreedLayers)), (h_a0_agreedStacks, .inl (k_cI G, 6, .inl w_a0_agreedStacks)), (h_a0_stacks, .inr (6, [.ref h_a0_stacks_rows, .ref h_a0_stacks_lengths, g_a0_stacks_count])), (h_a0_stacks_lengths, .inl (k_cI G, 5, .inl w_a0_stacks_lengths)), (h_a0_stacks_rows, .inl (k_cI G, 5, .inl w_a0_stacks_rows)), (h_a0_unsurePlaces, .inl (k_cI G, 4, .inl w_a0_unsurePlaces)), (h_a0_unsureStacks, .inl (k_cI G, 4, .inl w_a0_unsureStacks))]) C0 (k_runSN (rest := []) C0 (c_X11_at et1) (va_cnB 2 hts gX1_isSo_X11_at_n32 rfl rfl rfl (k_nw hNW 9 nw_X1_isSo_9) (hts _ u_X1_isSo_2) e_X11_at.2 ⟨Nat.le_of_ble_eq_true rfl, Nat.le_of_ble_eq_true rfl⟩) (hts _ u_X1_isSo_1) hP hD hS [3] rfl (by decide) rfl hl.1 rfl (Nat.le_of_ble_eq_true rfl) dX1_isSo_5 ⟨Nat.le_of_ble_eq_true rfl, Nat.le_of_ble_eq_true rfl⟩) hP hD hS [3] [0, 1, 2, 4, 5, 6, 7, 8] rfl rfl (by decide) (by decide) [0, 1, 2, 8, 3, 4, 5, 6, 7] (by decide) (fun _ => rfl) (fun _ H locs hP hD hS => ?_)
  have hP : va_P G.1 vwCl [(h_a0, .inr (2, [g_a0_complete, g_a0_near, g_a0_second, g_a0_third, g_a0_growth, .ref h_a0_stacks, g_a0_names, .int v_a0_unsureCount, .ref h_a0_unsureStacks, .ref h_a0_unsurePlaces, g_a0_agreedCount, .ref h_a0_agreedStacks, .ref h_a0_agreedDistances, .ref h_a0_agreedLayers])), (h_a0_agreedDistances, .inl (k_cI G, 6, .inl w_a0_agreedDistances)), (h_a0_agreedLayers, .inl (k_cI G, 6, .inl w_a0_agreedLayers)), (h_a0_agreedStacks, .inl (k_cI G, 6, .inl w_a0_agreedStacks)), (h_a0_stacks, .inr (6, [.ref h_a0_stacks_rows, .ref h_a0_stacks_lengths, g_a0_stacks_count])), (h_a0_stacks_lengths, .inl (k_cI G, 5, .inl w_a0_stacks_lengths)), (h_a0_stacks_rows, .inl (k_cI G, 5, .inl w_a0_stacks_rows)), (h_a0_unsurePlaces, .inl (k_cI G, 4, .inl w_a0_unsurePlaces)), (h_a0_unsureStacks, .inl (k_cI G, 4, .inl w_a0_unsureStacks))] H := hP
  have hD : va_D A [(h_a0, .inr (2, [g_a0_complete, g_a0_near, g_a0_second, g_a0_third, g_a0_growth, .ref h_a0_stacks, g_a0_names, .int v_a0_unsureCount, .ref h_a0_unsureStacks, .ref h_a0_unsurePlaces, g_a0_agreedCount, .ref h_a0_agreedStacks, .ref h_a0_agreedDistances, .ref h_a0_agreedLayers])), (h_a0_agreedDistances, .inl (k_cI G, 6, .inl w_a0_agreedDistances)), (h_a0_agreedLayers, .inl (k_cI G, 6, .inl w_a0_agreedLayers)), (h_a0_agreedStacks, .inl (k_cI G, 6, .inl w_a0_agreedStacks)), (h_a0_stacks, .inr (6, [.ref h_a0_stacks_rows, .ref h_a0_stacks_lengths, g_a0_stacks_count])), (h_a0_stacks_lengths, .inl (k_cI G, 5, .inl w_a0_stacks_lengths)), (h_a0_stacks_rows, .inl (k_cI G, 5, .inl w_a0_stacks_rows)), (h_a0_unsurePlaces, .inl (k_cI G, 4, .inl w_a0_unsurePlaces)), (h_a0_unsureStacks, .inl (k_cI G, 4, .inl w_a0_unsureStacks))] := hD
  refine lv_istore_n (lv' := [(3, .int t1), (0, .ref h_a0), (1, .int p1), (2, .int p2)]) hx hb dX1_isSo_8 rfl hl (by decide) rfl (fun ls hl => ?_)
  refine lv_aload_n hx hb dX1_isSo_9 rfl (lv_at hl 1 rfl) ?_
  refine va_getN (D := G.1) (ci := 2) (v := .ref h_a0_stacks) (C := RX4) (T := TX4) (N := 14) hx hb hts n_X1_isSo_X4 hown hK hP 0 rfl rfl 5 (by decide) (va_Nw.use rfl (k_nw hNW 39 nw_X1_isSo_39)) (fun _ h9 => h9) rfl dX1_isSo_10 ?_
  refine lv_iload_n hx hb dX1_isSo_13 rfl (lv_at hl 0 rfl) ?_
  obtain ⟨t2, et2, hrun⟩ := bd_inv hrun
  refine k_calli (w2 := fun (_ : Unit) => [(h_a0, .inr (2, [g_a0_complete, g_a0_near, g_a0_second, g_a0_third, g_a0_growth, .ref h_a0_stacks, g_a0_names, .int v_a0_unsureCount, .ref h_a0_unsureStacks, .ref h_a0_unsurePlaces, g_a0_agreedCount, .ref h_a0_agreedStacks, .ref h_a0_agreedDistances, .ref h_a0_agreedLayers])), (h_a0_agreedDistances, .inl (k_cI G, 6, .inl w_a0_agreedDistances)), (h_a0_agreedLayers, .inl (k_cI G, 6, .inl w_a0_agreedLayers)), (h_a0_agreedStacks, .inl (k_cI G, 6, .inl w_a0_agreedStacks)), (h_a0_stacks, .inr (6, [.ref h_a0_stacks_rows, .ref h_a0_stacks_lengths, g_a0_stacks_count])), (h_a0_stacks_lengths, .inl (k_cI G, 5, .inl w_a0_stacks_lengths)), (h_a0_stacks_rows, .inl (k_cI G, 5, .inl w_a0_stacks_rows)), (h_a0_unsurePlaces, .inl (k_cI G, 4, .inl w_a0_unsurePlaces)), (h_a0_unsureStacks, .inl (k_cI G, 4, .inl w_a0_unsureStacks))]) C0 (k_runV (rest := []) C0 (c_X9_steps et2) (cwV 1 hts gX1_isSo_X9_steps rfl rfl rfl e_X9_steps ⟨Nat.le_of_ble_eq_true rfl, Nat.le_of_ble_eq_true rfl⟩) hP hD hS [4, 5] rfl (by decide) 4 (qc := (RX9, TX9, 3)) rfl rfl rfl rfl hl.1 rfl (Nat.le_of_ble_eq_true rfl) dX1_isSo_14 ⟨Nat.le_of_ble_eq_true rfl, Nat.le_of_ble_eq_true rfl⟩) hP hD hS [4, 5] [0, 1, 2, 3, 6, 7, 8] rfl rfl (by decide) (by decide) [0, 1, 2, 3, 7, 8, 4, 5, 6] (by decide) (fun _ => rfl) (fun _ H locs hP hD hS => ?_)
  have hP : va_P G.1 vwCl [(h_a0, .inr (2, [g_a0_complete, g_a0_near, g_a0_second, g_a0_third, g_a0_growth, .ref h_a0_stacks, g_a0_names, .int v_a0_unsureCount, .ref h_a0_unsureStacks, .ref h_a0_unsurePlaces, g_a0_agreedCount, .ref h_a0_agreedStacks, .ref h_a0_agreedDistances, .ref h_a0_agreedLayers])), (h_a0_agreedDistances, .inl (k_cI G, 6, .inl w_a0_agreedDistances)), (h_a0_agreedLayers, .inl (k_cI G, 6, .inl w_a0_agreedLayers)), (h_a0_agreedStacks, .inl (k_cI G, 6, .inl w_a0_agreedStacks)), (h_a0_stacks, .inr (6, [.ref h_a0_stacks_rows, .ref h_a0_stacks_lengths, g_a0_stacks_count])), (h_a0_stacks_lengths, .inl (k_cI G, 5, .inl w_a0_stacks_lengths)), (h_a0_stacks_rows, .inl (k_cI G, 5, .inl w_a0_stacks_rows)), (h_a0_unsurePlaces, .inl (k_cI G, 4, .inl w_a0_unsurePlaces)), (h_a0_unsureStacks, .inl (k_cI G, 4, .inl w_a0_unsureStacks))] H := hP
  have hD : va_D A [(h_a0, .inr (2, [g_a0_complete, g_a0_near, g_a0_second, g_a0_third, g_a0_growth, .ref h_a0_stacks, g_a0_names, .int v_a0_unsureCount, .ref h_a0_unsureStacks, .ref h_a0_unsurePlaces, g_a0_agreedCount, .ref h_a0_agreedStacks, .ref h_a0_agreedDistances, .ref h_a0_agreedLayers])), (h_a0_agreedDistances, .inl (k_cI G, 6, .inl w_a0_agreedDistances)), (h_a0_agreedLayers, .inl (k_cI G, 6, .inl w_a0_agreedLayers)), (h_a0_agreedStacks, .inl (k_cI G, 6, .inl w_a0_agreedStacks)), (h_a0_stacks, .inr (6, [.ref h_a0_stacks_rows, .ref h_a0_stacks_lengths, g_a0_stacks_count])), (h_a0_stacks_lengths, .inl (k_cI G, 5, .inl w_a0_stacks_lengths)), (h_a0_stacks_rows, .inl (k_cI G, 5, .inl w_a0_stacks_rows)), (h_a0_unsurePlaces, .inl (k_cI G, 4, .inl w_a0_unsurePlaces)), (h_a0_unsureStacks, .inl (k_cI G, 4, .inl w_a0_unsureStacks))] := hD
  refine lv_istore (lv' := [(4, .int t2), (3, .int t1), (0, .ref h_a0), (1, .int p1), (2, .int p2)]) hx hb dX1_isSo_17 hl (by decide) rfl (fun ls hl => ?_)
  refine lv_aload_n hx hb dX1_isSo_19 rfl (lv_at hl 2 rfl) ?_
  refine lv_iload_n hx hb dX1_isSo_20 rfl (lv_at hl 1 rfl) ?_
  refine lv_iload_n hx hb dX1_isSo_21 rfl (lv_at hl 4 rfl) ?_
  obtain ⟨t3, et3, hrun⟩ := bd_inv hrun
  refine k_calli (w2 := fun (_ : Unit) => [(h_a0, .inr (2, [g_a0_complete, g_a0_near, g_a0_second, g_a0_third, g_a0_growth, .ref h_a0_stacks, g_a0_names, .int v_a0_unsureCount, .ref h_a0_unsureStacks, .ref h_a0_unsurePlaces, g_a0_agreedCount, .ref h_a0_agreedStacks, .ref h_a0_agreedDistances, .ref h_a0_agreedLayers])), (h_a0_agreedDistances, .inl (k_cI G, 6, .inl w_a0_agreedDistances)), (h_a0_agreedLayers, .inl (k_cI G, 6, .inl w_a0_agreedLayers)), (h_a0_agreedStacks, .inl (k_cI G, 6, .inl w_a0_agreedStacks)), (h_a0_stacks, .inr (6, [.ref h_a0_stacks_rows, .ref h_a0_stacks_lengths, g_a0_stacks_count])), (h_a0_stacks_lengths, .inl (k_cI G, 5, .inl w_a0_stacks_lengths)), (h_a0_stacks_rows, .inl (k_cI G, 5, .inl w_a0_stacks_rows)), (h_a0_unsurePlaces, .inl (k_cI G, 4, .inl w_a0_unsurePlaces)), (h_a0_unsureStacks, .inl (k_cI G, 4, .inl w_a0_unsureStacks))]) C0 (k_runS (rest := []) C0 (c_X1_rowWith et3) (va_cwS 3 hts gX1_isSo_X1_rowWith rfl rfl rfl e_X1_rowWith.2 ⟨Nat.le_of_ble_eq_true rfl, Nat.le_of_ble_eq_true rfl⟩) hP hD hS [0, 4, 5, 6, 7, 8] rfl (by decide) rfl hl.1 rfl (Nat.le_of_ble_eq_true rfl) dX1_isSo_22 ⟨Nat.le_of_ble_eq_true rfl, Nat.le_of_ble_eq_true rfl⟩) hP hD hS [0, 4, 5, 6, 7, 8] [1, 2, 3] rfl rfl (by decide) (by decide) [3, 0, 1, 2, 4, 5, 6, 7, 8] (by decide) (fun _ => rfl) (fun _ H locs hP hD hS => ?_)
  have hP : va_P G.1 vwCl [(h_a0, .inr (2, [g_a0_complete, g_a0_near, g_a0_second, g_a0_third, g_a0_growth, .ref h_a0_stacks, g_a0_names, .int v_a0_unsureCount, .ref h_a0_unsureStacks, .ref h_a0_unsurePlaces, g_a0_agreedCount, .ref h_a0_agreedStacks, .ref h_a0_agreedDistances, .ref h_a0_agreedLayers])), (h_a0_agreedDistances, .inl (k_cI G, 6, .inl w_a0_agreedDistances)), (h_a0_agreedLayers, .inl (k_cI G, 6, .inl w_a0_agreedLayers)), (h_a0_agreedStacks, .inl (k_cI G, 6, .inl w_a0_agreedStacks)), (h_a0_stacks, .inr (6, [.ref h_a0_stacks_rows, .ref h_a0_stacks_lengths, g_a0_stacks_count])), (h_a0_stacks_lengths, .inl (k_cI G, 5, .inl w_a0_stacks_lengths)), (h_a0_stacks_rows, .inl (k_cI G, 5, .inl w_a0_stacks_rows)), (h_a0_unsurePlaces, .inl (k_cI G, 4, .inl w_a0_unsurePlaces)), (h_a0_unsureStacks, .inl (k_cI G, 4, .inl w_a0_unsureStacks))] H := hP
  have hD : va_D A [(h_a0, .inr (2, [g_a0_complete, g_a0_near, g_a0_second, g_a0_third, g_a0_growth, .ref h_a0_stacks, g_a0_names, .int v_a0_unsureCount, .ref h_a0_unsureStacks, .ref h_a0_unsurePlaces, g_a0_agreedCount, .ref h_a0_agreedStacks, .ref h_a0_agreedDistances, .ref h_a0_agreedLayers])), (h_a0_agreedDistances, .inl (k_cI G, 6, .inl w_a0_agreedDistances)), (h_a0_agreedLayers, .inl (k_cI G, 6, .inl w_a0_agreedLayers)), (h_a0_agreedStacks, .inl (k_cI G, 6, .inl w_a0_agreedStacks)), (h_a0_stacks, .inr (6, [.ref h_a0_stacks_rows, .ref h_a0_stacks_lengths, g_a0_stacks_count])), (h_a0_stacks_lengths, .inl (k_cI G, 5, .inl w_a0_stacks_lengths)), (h_a0_stacks_rows, .inl (k_cI G, 5, .inl w_a0_stacks_rows)), (h_a0_unsurePlaces, .inl (k_cI G, 4, .inl w_a0_unsurePlaces)), (h_a0_unsureStacks, .inl (k_cI G, 4, .inl w_a0_unsureStacks))] := hD
  refine lv_istore (lv' := [(5, .int t3), (4, .int t2), (3, .int t1), (0, .ref h_a0), (1, .int p1), (2, .int p2)]) hx hb dX1_isSo_25 hl (by decide) rfl (fun ls hl => ?_)
  refine lv_iload hx hb dX1_isSo_27 (lv_at hl 0 rfl) ?_
  refine lv_iload hx hb dX1_isSo_29 (lv_at hl 1 rfl) ?_
  refine lv_aload_n hx hb dX1_isSo_31 rfl (lv_at hl 3 rfl) ?_
  refine va_getN (D := G.1) (ci := 2) (v := .ref h_a0_agreedDistances) (C := RX4) (T := TX4) (N := 14) hx hb hts n_X1_isSo_X4 hown hK hP 0 rfl rfl 12 (by decide) (va_Nw.use rfl (k_nw hNW 40 nw_X1_isSo_40)) (fun _ h9 => h9) rfl dX1_isSo_32 ?_
  refine lv_iload_n hx hb dX1_isSo_35 rfl (lv_at hl 4 rfl) ?_
  obtain ⟨t4, et4, hrun⟩ := bd_inv hrun
  refine k_calli (w2 := fun (_ : Unit) => [(h_a0, .inr (2, [g_a0_complete, g_a0_near, g_a0_second, g_a0_third, g_a0_growth, .ref h_a0_stacks, g_a0_names, .int v_a0_unsureCount, .ref h_a0_unsureStacks, .ref h_a0_unsurePlaces, g_a0_agreedCount, .ref h_a0_agreedStacks, .ref h_a0_agreedDistances, .ref h_a0_agreedLayers])), (h_a0_agreedDistances, .inl (k_cI G, 6, .inl w_a0_agreedDistances)), (h_a0_agreedLayers, .inl (k_cI G, 6, .inl w_a0_agreedLayers)), (h_a0_agreedStacks, .inl (k_cI G, 6, .inl w_a0_agreedStacks)), (h_a0_stacks, .inr (6, [.ref h_a0_stacks_rows, .ref h_a0_stacks_lengths, g_a0_stacks_count])), (h_a0_stacks_lengths, .inl (k_cI G, 5, .inl w_a0_stacks_lengths)), (h_a0_stacks_rows, .inl (k_cI G, 5, .inl w_a0_stacks_rows)), (h_a0_unsurePlaces, .inl (k_cI G, 4, .inl w_a0_unsurePlaces)), (h_a0_unsureStacks, .inl (k_cI G, 4, .inl w_a0_unsureStacks))]) C0 (k_runSN (rest := [.int t2, .int t3]) C0 (c_X11_at et4) (va_cnB 2 hts gX1_isSo_X11_at_n32 rfl rfl rfl (k_nw hNW 9 nw_X1_isSo_9) (hts _ u_X1_isSo_2) e_X11_at.2 ⟨Nat.le_of_ble_eq_true rfl, Nat.le_of_ble_eq_true rfl⟩) (hts _ u_X1_isSo_1) hP hD hS [1] rfl (by decide) rfl hl.1 rfl (Nat.le_of_ble_eq_true rfl) dX1_isSo_36 ⟨Nat.le_of_ble_eq_true rfl, Nat.le_of_ble_eq_true rfl⟩) hP hD hS [1] [0, 2, 3, 4, 5, 6, 7, 8] rfl rfl (by decide) (by decide) [0, 8, 1, 2, 3, 4, 5, 6, 7] (by decide) (fun _ => rfl) (fun _ H locs hP hD hS => ?_)
  have hP : va_P G.1 vwCl [(h_a0, .inr (2, [g_a0_complete, g_a0_near, g_a0_second, g_a0_third, g_a0_growth, .ref h_a0_stacks, g_a0_names, .int v_a0_unsureCount, .ref h_a0_unsureStacks, .ref h_a0_unsurePlaces, g_a0_agreedCount, .ref h_a0_agreedStacks, .ref h_a0_agreedDistances, .ref h_a0_agreedLayers])), (h_a0_agreedDistances, .inl (k_cI G, 6, .inl w_a0_agreedDistances)), (h_a0_agreedLayers, .inl (k_cI G, 6, .inl w_a0_agreedLayers)), (h_a0_agreedStacks, .inl (k_cI G, 6, .inl w_a0_agreedStacks)), (h_a0_stacks, .inr (6, [.ref h_a0_stacks_rows, .ref h_a0_stacks_lengths, g_a0_stacks_count])), (h_a0_stacks_lengths, .inl (k_cI G, 5, .inl w_a0_stacks_lengths)), (h_a0_stacks_rows, .inl (k_cI G, 5, .inl w_a0_stacks_rows)), (h_a0_unsurePlaces, .inl (k_cI G, 4, .inl w_a0_unsurePlaces)), (h_a0_unsureStacks, .inl (k_cI G, 4, .inl w_a0_unsureStacks))] H := hP
  have hD : va_D A [(h_a0, .inr (2, [g_a0_complete, g_a0_near, g_a0_second, g_a0_third, g_a0_growth, .ref h_a0_stacks, g_a0_names, .int v_a0_unsureCount, .ref h_a0_unsureStacks, .ref h_a0_unsurePlaces, g_a0_agreedCount, .ref h_a0_agreedStacks, .ref h_a0_agreedDistances, .ref h_a0_agreedLayers])), (h_a0_agreedDistances, .inl (k_cI G, 6, .inl w_a0_agreedDistances)), (h_a0_agreedLayers, .inl (k_cI G, 6, .inl w_a0_agreedLayers)), (h_a0_agreedStacks, .inl (k_cI G, 6, .inl w_a0_agreedStacks)), (h_a0_stacks, .inr (6, [.ref h_a0_stacks_rows, .ref h_a0_stacks_lengths, g_a0_stacks_count])), (h_a0_stacks_lengths, .inl (k_cI G, 5, .inl w_a0_stacks_lengths)), (h_a0_stacks_rows, .inl (k_cI G, 5, .inl w_a0_stacks_rows)), (h_a0_unsurePlaces, .inl (k_cI G, 4, .inl w_a0_unsurePlaces)), (h_a0_unsureStacks, .inl (k_cI G, 4, .inl w_a0_unsureStacks))] := hD
  obtain ⟨t5, et5, hrun⟩ := bd_inv hrun
  refine k_calli0 C0 (k_runS (rest := []) C0 (c_X8_layersAlike et5) (va_cwS 3 hts gX1_isSo_X8_layersAlike rfl rfl rfl e_X8_layersAlike.2 ⟨Nat.le_of_ble_eq_true rfl, Nat.le_of_ble_eq_true rfl⟩) hP hD hS [] rfl (by decide) rfl hl.1 rfl (Nat.le_of_ble_eq_true rfl) dX1_isSo_39 ⟨Nat.le_of_ble_eq_true rfl, Nat.le_of_ble_eq_true rfl⟩) hP hS (fun H locs hP hS => ?_)
  refine lv_aload_n hx hb dX1_isSo_42 rfl (lv_at hl 3 rfl) ?_
  refine va_getN (D := G.1) (ci := 2) (v := .ref h_a0_agreedLayers) (C := RX4) (T := TX4) (N := 14) hx hb hts n_X1_isSo_X4 hown hK hP 0 rfl rfl 13 (by decide) (va_Nw.use rfl (k_nw hNW 41 nw_X1_isSo_41)) (fun _ h9 => h9) rfl dX1_isSo_43 ?_
  refine lv_iload_n hx hb dX1_isSo_46 rfl (lv_at hl 4 rfl) ?_
  obtain ⟨t6, et6, hrun⟩ := bd_inv hrun
  refine k_calli (w2 := fun (_ : Unit) => [(h_a0, .inr (2, [g_a0_complete, g_a0_near, g_a0_second, g_a0_third, g_a0_growth, .ref h_a0_stacks, g_a0_names, .int v_a0_unsureCount, .ref h_a0_unsureStacks, .ref h_a0_unsurePlaces, g_a0_agreedCount, .ref h_a0_agreedStacks, .ref h_a0_agreedDistances, .ref h_a0_agreedLayers])), (h_a0_agreedDistances, .inl (k_cI G, 6, .inl w_a0_agreedDistances)), (h_a0_agreedLayers, .inl (k_cI G, 6, .inl w_a0_agreedLayers)), (h_a0_agreedStacks, .inl (k_cI G, 6, .inl w_a0_agreedStacks)), (h_a0_stacks, .inr (6, [.ref h_a0_stacks_rows, .ref h_a0_stacks_lengths, g_a0_stacks_count])), (h_a0_stacks_lengths, .inl (k_cI G, 5, .inl w_a0_stacks_lengths)), (h_a0_stacks_rows, .inl (k_cI G, 5, .inl w_a0_stacks_rows)), (h_a0_unsurePlaces, .inl (k_cI G, 4, .inl w_a0_unsurePlaces)), (h_a0_unsureStacks, .inl (k_cI G, 4, .inl w_a0_unsureStacks))]) C0 (k_runSN (rest := [.int t5]) C0 (c_X11_at et6) (va_cnB 2 hts gX1_isSo_X11_at_n32 rfl rfl rfl (k_nw hNW 9 nw_X1_isSo_9) (hts _ u_X1_isSo_2) e_X11_at.2 ⟨Nat.le_of_ble_eq_true rfl, Nat.le_of_ble_eq_true rfl⟩) (hts _ u_X1_isSo_1) hP hD hS [2] rfl (by decide) rfl hl.1 rfl (Nat.le_of_ble_eq_true rfl) dX1_isSo_47 ⟨Nat.le_of_ble_eq_true rfl, Nat.le_of_ble_eq_true rfl⟩) hP hD hS [2] [0, 1, 3, 4, 5, 6, 7, 8] rfl rfl (by decide) (by decide) [0, 1, 8, 2, 3, 4, 5, 6, 7] (by decide) (fun _ => rfl) (fun _ H locs hP hD hS => ?_)
  have hP : va_P G.1 vwCl [(h_a0, .inr (2, [g_a0_complete, g_a0_near, g_a0_second, g_a0_third, g_a0_growth, .ref h_a0_stacks, g_a0_names, .int v_a0_unsureCount, .ref h_a0_unsureStacks, .ref h_a0_unsurePlaces, g_a0_agreedCount, .ref h_a0_agreedStacks, .ref h_a0_agreedDistances, .ref h_a0_agreedLayers])), (h_a0_agreedDistances, .inl (k_cI G, 6, .inl w_a0_agreedDistances)), (h_a0_agreedLayers, .inl (k_cI G, 6, .inl w_a0_agreedLayers)), (h_a0_agreedStacks, .inl (k_cI G, 6, .inl w_a0_agreedStacks)), (h_a0_stacks, .inr (6, [.ref h_a0_stacks_rows, .ref h_a0_stacks_lengths, g_a0_stacks_count])), (h_a0_stacks_lengths, .inl (k_cI G, 5, .inl w_a0_stacks_lengths)), (h_a0_stacks_rows, .inl (k_cI G, 5, .inl w_a0_stacks_rows)), (h_a0_unsurePlaces, .inl (k_cI G, 4, .inl w_a0_unsurePlaces)), (h_a0_unsureStacks, .inl (k_cI G, 4, .inl w_a0_unsureStacks))] H := hP
  have hD : va_D A [(h_a0, .inr (2, [g_a0_complete, g_a0_near, g_a0_second, g_a0_third, g_a0_growth, .ref h_a0_stacks, g_a0_names, .int v_a0_unsureCount, .ref h_a0_unsureStacks, .ref h_a0_unsurePlaces, g_a0_agreedCount, .ref h_a0_agreedStacks, .ref h_a0_agreedDistances, .ref h_a0_agreedLayers])), (h_a0_agreedDistances, .inl (k_cI G, 6, .inl w_a0_agreedDistances)), (h_a0_agreedLayers, .inl (k_cI G, 6, .inl w_a0_agreedLayers)), (h_a0_agreedStacks, .inl (k_cI G, 6, .inl w_a0_agreedStacks)), (h_a0_stacks, .inr (6, [.ref h_a0_stacks_rows, .ref h_a0_stacks_lengths, g_a0_stacks_count])), (h_a0_stacks_lengths, .inl (k_cI G, 5, .inl w_a0_stacks_lengths)), (h_a0_stacks_rows, .inl (k_cI G, 5, .inl w_a0_stacks_rows)), (h_a0_unsurePlaces, .inl (k_cI G, 4, .inl w_a0_unsurePlaces)), (h_a0_unsureStacks, .inl (k_cI G, 4, .inl w_a0_unsureStacks))] := hD
  refine lv_icmp_ne (tgt := 57) hx hb dX1_isSo_50 (by decide) (fun q7 => ?_) (fun q7 => ?_)
  · replace hrun := if_f q7 hrun
    refine lv_iconst (v := 0) hx hb dX1_isSo_57 (by decide) ?_
    obtain rfl := Option.some.inj hrun
    exact k_retz C0 hP hD hS () rfl rfl rfl dX1_isSo_58
  · replace hrun := if_t q7 hrun
    refine lv_iconst (v := 1) hx hb dX1_isSo_53 (by decide) ?_
    refine lv_goto (tgt := 58) hx hb dX1_isSo_54 (by decide) ?_
    obtain rfl := Option.some.inj hrun
    exact k_retz C0 hP hD hS () rfl rfl rfl dX1_isSo_58
theorem n_X1_areAllSo_X4 : ∀ w ∈ u_ws RX4 TX4 14, w ∈ wsX1_areAllSo := by decide +kernel
theorem nw_X1_areAllSo_37 : k_nest[37]? = some (.fieldLinkNest RX1 21 "ClosePacking$Lab" "agreedCount" "I" "ClosePacking") := rfl
abbrev rm_X1_areAllSo : Room := { frames := 5, cells := 0, slots := 0, locals := 115 }
theorem e_X1_areAllSo : yX1_areAllSo.cls = RX1 ∧ yX1_areAllSo.cls ≠ "java/lang/invoke/MethodHandle" ∧ yX1_areAllSo.cls ≠ "java/lang/invoke/VarHandle" ∧ (parseMethodDescriptor yX1_areAllSo.desc).map (fun d => d.parameters.length) = some 2 := by decide +kernel
set_option maxHeartbeats 4000000 in
set_option maxRecDepth 100000 in
theorem t_X1_areAllSo_2 {l : Launch} {G : k_G} {p : Program} {e : Env} {s : State} {m : MethodId} {args : Array Value} {below : List Frame} {meth : Method} {c : Code} {A : Nat → Prop} {h_a0 h_a0_agreedDistances h_a0_agreedLayers h_a0_agreedStacks h_a0_stacks h_a0_stacks_lengths h_a0_stacks_rows h_a0_unsurePlaces h_a0_unsureStacks : Nat} {g_a0_complete g_a0_near g_a0_second g_a0_third g_a0_growth g_a0_names g_a0_stacks_count : Value} {out : Int32} (C0 : k_C G p s m args meth c A cX1_areAllSo RX1 wsX1_areAllSo 3 (some .boolean) "areAllSo") : ∀ (n : Nat) (x1 : Int32) (x2 : Int32) (v_a0_agreedCount : Int32) (v_a0_unsureCount : Int32) (w_a0_agreedDistances : Nat → Int32) (w_a0_agreedLayers : Nat → Int32) (w_a0_agreedStacks : Nat → Int32) (w_a0_stacks_lengths : Nat → Int32) (w_a0_stacks_rows : Nat → Int32) (w_a0_unsurePlaces : Nat → Int32) (w_a0_unsureStacks : Nat → Int32) (H : Heap) (locs : List Loc) (ls : Array Slot), va_P G.1 vwCl [(h_a0, .inr (2, [g_a0_complete, g_a0_near, g_a0_second, g_a0_third, g_a0_growth, .ref h_a0_stacks, g_a0_names, .int v_a0_unsureCount, .ref h_a0_unsureStacks, .ref h_a0_unsurePlaces, .int v_a0_agreedCount, .ref h_a0_agreedStacks, .ref h_a0_agreedDistances, .ref h_a0_agreedLayers])), (h_a0_agreedDistances, .inl (k_cI G, 6, .inl w_a0_agreedDistances)), (h_a0_agreedLayers, .inl (k_cI G, 6, .inl w_a0_agreedLayers)), (h_a0_agreedStacks, .inl (k_cI G, 6, .inl w_a0_agreedStacks)), (h_a0_stacks, .inr (6, [.ref h_a0_stacks_rows, .ref h_a0_stacks_lengths, g_a0_stacks_count])), (h_a0_stacks_lengths, .inl (k_cI G, 5, .inl w_a0_stacks_lengths)), (h_a0_stacks_rows, .inl (k_cI G, 5, .inl w_a0_stacks_rows)), (h_a0_unsurePlaces, .inl (k_cI G, 4, .inl w_a0_unsurePlaces)), (h_a0_unsureStacks, .inl (k_cI G, 4, .inl w_a0_unsureStacks))] H → va_D A [(h_a0, .inr (2, [g_a0_complete, g_a0_near, g_a0_second, g_a0_third, g_a0_growth, .ref h_a0_stacks, g_a0_names, .int v_a0_unsureCount, .ref h_a0_unsureStacks, .ref h_a0_unsurePlaces, .int v_a0_agreedCount, .ref h_a0_agreedStacks, .ref h_a0_agreedDistances, .ref h_a0_agreedLayers])), (h_a0_agreedDistances, .inl (k_cI G, 6, .inl w_a0_agreedDistances)), (h_a0_agreedLayers, .inl (k_cI G, 6, .inl w_a0_agreedLayers)), (h_a0_agreedStacks, .inl (k_cI G, 6, .inl w_a0_agreedStacks)), (h_a0_stacks, .inr (6, [.ref h_a0_stacks_rows, .ref h_a0_stacks_lengths, g_a0_stacks_count])), (h_a0_stacks_lengths, .inl (k_cI G, 5, .inl w_a0_stacks_lengths)), (h_a0_stacks_rows, .inl (k_cI G, 5, .inl w_a0_stacks_rows)), (h_a0_unsurePlaces, .inl (k_cI G, 4, .inl w_a0_unsurePlaces)), (h_a0_unsureStacks, .inl (k_cI G, 4, .inl w_a0_unsureStacks))] → va_S A s.heap H locs → lv_has ls 3 [(0, .ref h_a0), (1, .int x1), (2, .int x2)] → f_X1_areAllSo_2 n x1 x2 v_a0_agreedCount v_a0_unsureCount w_a0_agreedDistances w_a0_agreedLayers w_a0_agreedStacks w_a0_stacks_lengths w_a0_stacks_rows w_a0_unsurePlaces w_a0_unsureStacks = some out → W p l e rm_X1_areAllSo s m args below meth c H locs 0 0 (MQ below (k_Qi G A out (fun (_ : Unit) => [(h_a0, .inr (2, [g_a0_complete, g_a0_near, g_a0_second, g_a0_third, g_a0_growth, .ref h_a0_stacks, g_a0_names, .int v_a0_unsureCount, .ref h_a0_unsureStacks, .ref h_a0_unsurePlaces, .int v_a0_agreedCount, .ref h_a0_agreedStacks, .ref h_a0_agreedDistances, .ref h_a0_agreedLayers])), (h_a0_agreedDistances, .inl (k_cI G, 6, .inl w_a0_agreedDistances)), (h_a0_agreedLayers, .inl (k_cI G, 6, .inl w_a0_agreedLayers)), (h_a0_agreedStacks, .inl (k_cI G, 6, .inl w_a0_agreedStacks)), (h_a0_stacks, .inr (6, [.ref h_a0_stacks_rows, .ref h_a0_stacks_lengths, g_a0_stacks_count])), (h_a0_stacks_lengths, .inl (k_cI G, 5, .inl w_a0_stacks_lengths)), (h_a0_stacks_rows, .inl (k_cI G, 5, .inl w_a0_stacks_rows)), (h_a0_unsurePlaces, .inl (k_cI G, 4, .inl w_a0_unsurePlaces)), (h_a0_unsureStacks, .inl (k_cI G, 4, .inl w_a0_unsureStacks))])) args s 0 0 A) (F0 m 2 ls []) := by
  have hx := C0.1
  have hb := C0.2.1
  have hts := C0.2.2.2.1
  have hown := C0.2.2.2.2.1
  have hK := C0.2.2.2.2.2.2.2.2.1.1
  have hNW := C0.2.2.2.2.2.2.2.2.1.2.1
  have hSF := C0.2.2.2.2.2.2.2.2.1.2.2
  intro n
  induction n with
  | zero =>
    intro x1 x2 v_a0_agreedCount v_a0_unsureCount w_a0_agreedDistances w_a0_agreedLayers w_a0_agreedStacks w_a0_stacks_lengths w_a0_stacks_rows w_a0_unsurePlaces w_a0_unsureStacks H locs ls hP hD hS hl hrun
    rw [f_X1_areAllSo_2] at hrun
    cases hrun
  | succ n ih =>
    intro x1 x2 v_a0_agreedCount v_a0_unsureCount w_a0_agreedDistances w_a0_agreedLayers w_a0_agreedStacks w_a0_stacks_lengths w_a0_stacks_rows w_a0_unsurePlaces w_a0_unsureStacks H locs ls hP hD hS hl hrun
    rw [f_X1_areAllSo_2] at hrun
    refine lv_iload_n hx hb dX1_areAllSo_2 rfl (lv_at hl 2 rfl) ?_
    refine lv_aload_n hx hb dX1_areAllSo_3 rfl (lv_at hl 0 rfl) ?_
    refine va_getN (D := G.1) (ci := 2) (v := .int v_a0_agreedCount) (C := RX4) (T := TX4) (N := 14) hx hb hts n_X1_areAllSo_X4 hown hK hP 0 rfl rfl 10 (by decide) (va_Nw.use rfl (k_nw hNW 37 nw_X1_areAllSo_37)) (fun _ h9 => h9) rfl dX1_areAllSo_4 ?_
    refine lv_icmp_ge (tgt := 27) hx hb dX1_areAllSo_7 (by decide) (fun q1 => ?_) (fun q1 => ?_)
    · replace hrun := if_t q1 hrun
      refine lv_iconst (v := 1) hx hb dX1_areAllSo_27 (by decide) ?_
      obtain rfl := Option.some.inj hrun
      exact k_retz C0 hP hD hS () rfl rfl rfl dX1_areAllSo_28
    · replace hrun := if_f q1 hrun
      refine lv_aload_n hx hb dX1_areAllSo_10 rfl (lv_at hl 0 rfl) ?_
      refine lv_iload_n hx hb dX1_areAllSo_11 rfl (lv_at hl 2 rfl) ?_
      refine lv_iload_n hx hb dX1_areAllSo_12 rfl (lv_at hl 1 rfl) ?_
      obtain ⟨t2, et2, hrun⟩ := bd_inv hrun
      refine k_calli (w2 := fun (_ : Unit) => [(h_a0, .inr (2, [g_a0_complete, g_a0_near, g_a0_second, g_a0_third, g_a0_growth, .ref h_a0_stacks, g_a0_names, .int v_a0_unsureCount, .ref h_a0_unsureStacks, .ref h_a0_unsurePlaces, .int v_a0_agreedCount, .ref h_a0_agreedStacks, .ref h_a0_agreedDistances, .ref h_a0_agreedLayers])), (h_a0_agreedDistances, .inl (k_cI G, 6, .inl w_a0_agreedDistances)), (h_a0_agreedLayers, .inl (k_cI G, 6, .inl w_a0_agreedLayers)), (h_a0_agreedStacks, .inl (k_cI G, 6, .inl w_a0_agreedStacks)), (h_a0_stacks, .inr (6, [.ref h_a0_stacks_rows, .ref h_a0_stacks_lengths, g_a0_stacks_count])), (h_a0_stacks_lengths, .inl (k_cI G, 5, .inl w_a0_stacks_lengths)), (h_a0_stacks_rows, .inl (k_cI G, 5, .inl w_a0_stacks_rows)), (h_a0_unsurePlaces, .inl (k_cI G, 4, .inl w_a0_unsurePlaces)), (h_a0_unsureStacks, .inl (k_cI G, 4, .inl w_a0_unsureStacks))]) C0 (k_runS (rest := []) C0 (c_X1_isSo et2) (va_cwS 3 hts gX1_areAllSo_X1_isSo rfl rfl rfl e_X1_isSo.2 ⟨Nat.le_of_ble_eq_true rfl, Nat.le_of_ble_eq_true rfl⟩) hP hD hS [0, 1, 2, 3, 4, 5, 6, 7, 8] rfl (by decide) rfl hl.1 rfl (Nat.le_of_ble_eq_true rfl) dX1_areAllSo_13 ⟨Nat.le_of_ble_eq_true rfl, Nat.le_of_ble_eq_true rfl⟩) hP hD hS [0, 1, 2, 3, 4, 5, 6, 7, 8] [] rfl rfl (by decide) (by decide) [0, 1, 2, 3, 4, 5, 6, 7, 8] (by decide) (fun _ => rfl) (fun _ H locs hP hD hS => ?_)
      have hP : va_P G.1 vwCl [(h_a0, .inr (2, [g_a0_complete, g_a0_near, g_a0_second, g_a0_third, g_a0_growth, .ref h_a0_stacks, g_a0_names, .int v_a0_unsureCount, .ref h_a0_unsureStacks, .ref h_a0_unsurePlaces, .int v_a0_agreedCount, .ref h_a0_agreedStacks, .ref h_a0_agreedDistances, .ref h_a0_agreedLayers])), (h_a0_agreedDistances, .inl (k_cI G, 6, .inl w_a0_agreedDistances)), (h_a0_agreedLayers, .inl (k_cI G, 6, .inl w_a0_agreedLayers)), (h_a0_agreedStacks, .inl (k_cI G, 6, .inl w_a0_agreedStacks)), (h_a0_stacks, .inr (6, [.ref h_a0_stacks_rows, .ref h_a0_stacks_lengths, g_a0_stacks_count])), (h_a0_stacks_lengths, .inl (k_cI G, 5, .inl w_a0_stacks_lengths)), (h_a0_stacks_rows, .inl (k_cI G, 5, .inl w_a0_stacks_rows)), (h_a0_unsurePlaces, .inl (k_cI G, 4, .inl w_a0_unsurePlaces)), (h_a0_unsureStacks, .inl (k_cI G, 4, .inl w_a0_unsureStacks))] H := hP
      have hD : va_D A [(h_a0, .inr (2, [g_a0_complete, g_a0_near, g_a0_second, g_a0_third, g_a0_growth, .ref h_a0_stacks, g_a0_names, .int v_a0_unsureCount, .ref h_a0_unsureStacks, .ref h_a0_unsurePlaces, .int v_a0_agreedCount, .ref h_a0_agreedStacks, .ref h_a0_agreedDistances, .ref h_a0_agreedLayers])), (h_a0_agreedDistances, .inl (k_cI G, 6, .inl w_a0_agreedDistances)), (h_a0_agreedLayers, .inl (k_cI G, 6, .inl w_a0_agreedLayers)), (h_a0_agreedStacks, .inl (k_cI G, 6, .inl w_a0_agreedStacks)), (h_a0_stacks, .inr (6, [.ref h_a0_stacks_rows, .ref h_a0_stacks_lengths, g_a0_stacks_count])), (h_a0_stacks_lengths, .inl (k_cI G, 5, .inl w_a0_stacks_lengths)), (h_a0_stacks_rows, .inl (k_cI G, 5, .inl w_a0_stacks_rows)), (h_a0_unsurePlaces, .inl (k_cI G, 4, .inl w_a0_unsurePlaces)), (h_a0_unsureStacks, .inl (k_cI G, 4, .inl w_a0_unsureStacks))] := hD
      refine lv_if_ne (tgt := 21) hx hb dX1_areAllSo_16 (by decide) (fun q3 => ?_) (fun q3 => ?_)
      · replace hrun := if_f q3 hrun
        refine lv_iinc (v := x2 + 1) (lv' := [(2, .int (x2 + 1)), (0, .ref h_a0), (1, .int x1)]) hx hb dX1_areAllSo_21 hl (k := 2) rfl rfl (by decide) rfl (fun ls hl => ?_)
        refine lv_goto (tgt := 2) hx hb dX1_areAllSo_24 (by decide) ?_
        exact ih x1 (x2 + 1) v_a0_agreedCount v_a0_unsureCount w_a0_agreedDistances w_a0_agreedLayers w_a0_agreedStacks w_a0_stacks_lengths w_a0_stacks_rows w_a0_unsurePlaces w_a0_unsureStacks _ _ _ hP hD hS (lv_sub hl [1, 2, 0] rfl) hrun
      · replace hrun := if_t q3 hrun
        refine lv_iconst (v := 0) hx hb dX1_areAllSo_19 (by decide) ?_
        obtain rfl := Option.some.inj hrun
        exact k_retz C0 hP hD hS () rfl rfl rfl dX1_areAllSo_20
set_option maxHeartbeats 4000000 in
set_option maxRecDepth 100000 in
theorem c_X1_areAllSo {l : Launch} {G : k_G} {h_a0 h_a0_agreedDistances h_a0_agreedLayers h_a0_agreedStacks h_a0_stacks h_a0_stacks_lengths h_a0_stacks_rows h_a0_unsurePlaces h_a0_unsureStacks : Nat} {g_a0_complete g_a0_near g_a0_second g_a0_third g_a0_growth g_a0_names g_a0_stacks_count : Value} {sz : Nat} {p1 : Int32} {v_a0_agreedCount : Int32} {v_a0_unsureCount : Int32} {w_a0_agreedDistances : Nat → Int32} {w_a0_agreedLayers : Nat → Int32} {w_a0_agreedStacks : Nat → Int32} {w_a0_stacks_lengths : Nat → Int32} {w_a0_stacks_rows : Nat → Int32} {w_a0_unsurePlaces : Nat → Int32} {w_a0_unsureStacks : Nat → Int32} {out : Int32} (hrun : f_X1_areAllSo p1 v_a0_agreedCount v_a0_unsureCount w_a0_agreedDistances w_a0_agreedLayers w_a0_agreedStacks w_a0_stacks_lengths w_a0_stacks_rows w_a0_unsurePlaces w_a0_unsureStacks = some out) : k_Ci l G yX1_areAllSo wsX1_areAllSo rm_X1_areAllSo [.ref h_a0, .int p1] [(h_a0, .inr (2, [g_a0_complete, g_a0_near, g_a0_second, g_a0_third, g_a0_growth, .ref h_a0_stacks, g_a0_names, .int v_a0_unsureCount, .ref h_a0_unsureStacks, .ref h_a0_unsurePlaces, .int v_a0_agreedCount, .ref h_a0_agreedStacks, .ref h_a0_agreedDistances, .ref h_a0_agreedLayers])), (h_a0_agreedDistances, .inl (k_cI G, 6, .inl w_a0_agreedDistances)), (h_a0_agreedLayers, .inl (k_cI G, 6, .inl w_a0_agreedLayers)), (h_a0_agreedStacks, .inl (k_cI G, 6, .inl w_a0_agreedStacks)), (h_a0_stacks, .inr (6, [.ref h_a0_stacks_rows, .ref h_a0_stacks_lengths, g_a0_stacks_count])), (h_a0_stacks_lengths, .inl (k_cI G, 5, .inl w_a0_stacks_lengths)), (h_a0_stacks_rows, .inl (k_cI G, 5, .inl w_a0_stacks_rows)), (h_a0_unsurePlaces, .inl (k_cI G, 4, .inl w_a0_unsurePlaces)), (h_a0_unsureStacks, .inl (k_cI G, 4, .inl w_a0_unsureStacks))] sz out (fun (_ : Unit) => [(h_a0, .inr (2, [g_a0_complete, g_a0_near, g_a0_second, g_a0_third, g_a0_growth, .ref h_a0_stacks, g_a0_names, .int v_a0_unsureCount, .ref h_a0_unsureStacks, .ref h_a0_unsurePlaces, .int v_a0_agreedCount, .ref h_a0_agreedStacks, .ref h_a0_agreedDistances, .ref h_a0_agreedLayers])), (h_a0_agreedDistances, .inl (k_cI G, 6, .inl w_a0_agreedDistances)), (h_a0_agreedLayers, .inl (k_cI G, 6, .inl w_a0_agreedLayers)), (h_a0_agreedStacks, .inl (k_cI G, 6, .inl w_a0_agreedStacks)), (h_a0_stacks, .inr (6, [.ref h_a0_stacks_rows, .ref h_a0_stacks_lengths, g_a0_stacks_count])), (h_a0_stacks_lengths, .inl (k_cI G, 5, .inl w_a0_stacks_lengths)), (h_a0_stacks_rows, .inl (k_cI G, 5, .inl w_a0_stacks_rows)), (h_a0_unsurePlaces, .inl (k_cI G, 4, .inl w_a0_unsurePlaces)), (h_a0_unsureStacks, .inl (k_cI G, 4, .inl w_a0_unsureStacks))]) 0 0 := by
  refine k_of (cc := cX1_areAllSo) (nL := 3) (ret := some .boolean) (own := RX1) (nm := "areAllSo") (by decide) rfl rfl rfl rfl ?_
  intro p e s m args below meth c ls hsz C0 hP hD hS hl
  have hl : lv_has ls 3 [(0, .ref h_a0), (1, .int p1)] := hl
  generalize hH : s.heap = H at hP
  have hS : va_S (va_A [(h_a0, .inr (2, [g_a0_complete, g_a0_near, g_a0_second, g_a0_third, g_a0_growth, .ref h_a0_stacks, g_a0_names, .int v_a0_unsureCount, .ref h_a0_unsureStacks, .ref h_a0_unsurePlaces, .int v_a0_agreedCount, .ref h_a0_agreedStacks, .ref h_a0_agreedDistances, .ref h_a0_agreedLayers])), (h_a0_agreedDistances, .inl (k_cI G, 6, .inl w_a0_agreedDistances)), (h_a0_agreedLayers, .inl (k_cI G, 6, .inl w_a0_agreedLayers)), (h_a0_agreedStacks, .inl (k_cI G, 6, .inl w_a0_agreedStacks)), (h_a0_stacks, .inr (6, [.ref h_a0_stacks_rows, .ref h_a0_stacks_lengths, g_a0_stacks_count])), (h_a0_stacks_lengths, .inl (k_cI G, 5, .inl w_a0_stacks_lengths)), (h_a0_stacks_rows, .inl (k_cI G, 5, .inl w_a0_stacks_rows)), (h_a0_unsurePlaces, .inl (k_cI G, 4, .inl w_a0_unsurePlaces)), (h_a0_unsureStacks, .inl (k_cI G, 4, .inl w_a0_unsureStacks))] sz) s.heap H [] := by rw [← hH]; exact hS
  clear hH
  generalize va_A [(h_a0, .inr (2, [g_a0_complete, g_a0_near, g_a0_second, g_a0_third, g_a0_growth, .ref h_a0_stacks, g_a0_names, .int v_a0_unsureCount, .ref h_a0_unsureStacks, .ref h_a0_unsurePlaces, .int v_a0_agreedCount, .ref h_a0_agreedStacks, .ref h_a0_agreedDistances, .ref h_a0_agreedLayers])), (h_a0_agreedDistances, .inl (k_cI G, 6, .inl w_a0_agreedDistances)), (h_a0_agreedLayers, .inl (k_cI G, 6, .inl w_a0_agreedLayers)), (h_a0_agreedStacks, .inl (k_cI G, 6, .inl w_a0_agreedStacks)), (h_a0_stacks, .inr (6, [.ref h_a0_stacks_rows, .ref h_a0_stacks_lengths, g_a0_stacks_count])), (h_a0_stacks_lengths, .inl (k_cI G, 5, .inl w_a0_stacks_lengths)), (h_a0_stacks_rows, .inl (k_cI G, 5, .inl w_a0_stacks_rows)), (h_a0_unsurePlaces, .inl (k_cI G, 4, .inl w_a0_unsurePlaces)), (h_a0_unsureStacks, .inl (k_cI G, 4, .inl w_a0_unsureStacks))] sz = A at C0 hD hS ⊢
  have hx := C0.1
  have hb := C0.2.1
  have hts := C0.2.2.2.1
  have hown := C0.2.2.2.2.1
  have hK := C0.2.2.2.2.2.2.2.2.1.1
  have hNW := C0.2.2.2.2.2.2.2.2.1.2.1
  have hSF := C0.2.2.2.2.2.2.2.2.1.2.2
  rw [f_X1_areAllSo] at hrun
  refine lv_iconst (v := 0) hx hb dX1_areAllSo_0 (by decide) ?_
  refine lv_istore_n (lv' := [(2, .int (0 : Int32)), (0, .ref h_a0), (1, .int p1)]) hx hb dX1_areAllSo_1 rfl hl (by decide) rfl (fun ls hl => ?_)
  exact t_X1_areAllSo_2 C0 kFU p1 (0 : Int32) v_a0_agreedCount v_a0_unsureCount w_a0_agreedDistances w_a0_agreedLayers w_a0_agreedStacks w_a0_stacks_lengths w_a0_stacks_rows w_a0_unsurePlaces w_a0_unsureStacks _ _ _ hP hD hS (lv_sub hl [1, 2, 0] rfl) hrun
theorem n_X1_of_X4 : ∀ w ∈ u_ws RX4 TX4 14, w ∈ wsX1_of := by decide +kernel
theorem nw_X1_of_44 : k_nest[44]? = some (.fieldLinkNest RX1 9 "ClosePacking$Lab" "unsureCount" "I" "ClosePacking") := rfl
abbrev rm_X1_of : Room := { frames := 6, cells := 0, slots := 0, locals := 137 }
theorem e_X1_of : yX1_of.cls = RX1 ∧ yX1_of.cls ≠ "java/lang/invoke/MethodHandle" ∧ yX1_of.cls ≠ "java/lang/invoke/VarHandle" ∧ (parseMethodDescriptor yX1_of.desc).map (fun d => d.parameters.length) = some 1 := by decide +kernel
set_option maxHeartbeats 4000000 in
set_option maxRecDepth 100000 in
theorem t_X1_of_30 {l : Launch} {G : k_G} {p : Program} {e : Env} {s : State} {m : MethodId} {args : Array Value} {below : List Frame} {meth : Method} {c : Code} {A : Nat → Prop} {h_a0 h_a0_agreedDistances h_a0_agreedLayers h_a0_agreedStacks h_a0_stacks h_a0_stacks_lengths h_a0_stacks_rows h_a0_unsurePlaces h_a0_unsureStacks : Nat} {g_a0_complete g_a0_near g_a0_second g_a0_third g_a0_growth g_a0_names g_a0_stacks_count : Value} {out : Int32} (C0 : k_C G p s m args meth c A cX1_of RX1 wsX1_of 3 (some .int) "of") (k4 : Int32 → Int32 → Int32 → Int32 → (Nat → Int32) → (Nat → Int32) → (Nat → Int32) → (Nat → Int32) → (Nat → Int32) → (Nat → Int32) → (Nat → Int32) → Option (Int32)) (hk4 : ∀ (x1 : Int32) (x2 : Int32) (v_a0_agreedCount : Int32) (v_a0_unsureCount : Int32) (w_a0_agreedDistances : Nat → Int32) (w_a0_agreedLayers : Nat → Int32) (w_a0_agreedStacks : Nat → Int32) (w_a0_stacks_lengths : Nat → Int32) (w_a0_stacks_rows : Nat → Int32) (w_a0_unsurePlaces : Nat → Int32) (w_a0_unsureStacks : Nat → Int32) (H : Heap) (locs : List Loc) (ls : Array Slot), va_P G.1 vwCl [(h_a0, .inr (2, [g_a0_complete, g_a0_near, g_a0_second, g_a0_third, g_a0_growth, .ref h_a0_stacks, g_a0_names, .int v_a0_unsureCount, .ref h_a0_unsureStacks, .ref h_a0_unsurePlaces, .int v_a0_agreedCount, .ref h_a0_agreedStacks, .ref h_a0_agreedDistances, .ref h_a0_agreedLayers])), (h_a0_agreedDistances, .inl (k_cI G, 6, .inl w_a0_agreedDistances)), (h_a0_agreedLayers, .inl (k_cI G, 6, .inl w_a0_agreedLayers)), (h_a0_agreedStacks, .inl (k_cI G, 6, .inl w_a0_agreedStacks)), (h_a0_stacks, .inr (6, [.ref h_a0_stacks_rows, .ref h_a0_stacks_lengths, g_a0_stacks_count])), (h_a0_stacks_lengths, .inl (k_cI G, 5, .inl w_a0_stacks_lengths)), (h_a0_stacks_rows, .inl (k_cI G, 5, .inl w_a0_stacks_rows)), (h_a0_unsurePlaces, .inl (k_cI G, 4, .inl w_a0_unsurePlaces)), (h_a0_unsureStacks, .inl (k_cI G, 4, .inl w_a0_unsureStacks))] H → va_D A [(h_a0, .inr (2, [g_a0_complete, g_a0_near, g_a0_second, g_a0_third, g_a0_growth, .ref h_a0_stacks, g_a0_names, .int v_a0_unsureCount, .ref h_a0_unsureStacks, .ref h_a0_unsurePlaces, .int v_a0_agreedCount, .ref h_a0_agreedStacks, .ref h_a0_agreedDistances, .ref h_a0_agreedLayers])), (h_a0_agreedDistances, .inl (k_cI G, 6, .inl w_a0_agreedDistances)), (h_a0_agreedLayers, .inl (k_cI G, 6, .inl w_a0_agreedLayers)), (h_a0_agreedStacks, .inl (k_cI G, 6, .inl w_a0_agreedStacks)), (h_a0_stacks, .inr (6, [.ref h_a0_stacks_rows, .ref h_a0_stacks_lengths, g_a0_stacks_count])), (h_a0_stacks_lengths, .inl (k_cI G, 5, .inl w_a0_stacks_lengths)), (h_a0_stacks_rows, .inl (k_cI G, 5, .inl w_a0_stacks_rows)), (h_a0_unsurePlaces, .inl (k_cI G, 4, .inl w_a0_unsurePlaces)), (h_a0_unsureStacks, .inl (k_cI G, 4, .inl w_a0_unsureStacks))] → va_S A s.heap H locs → lv_has ls 3 [(0, .ref h_a0), (1, .int x1), (2, .int x2)] → k4 x1 x2 v_a0_agreedCount v_a0_unsureCount w_a0_agreedDistances w_a0_agreedLayers w_a0_agreedStacks w_a0_stacks_lengths w_a0_stacks_rows w_a0_unsurePlaces w_a0_unsureStacks = some out → W p l e rm_X1_of s m args below meth c H locs 0 0 (MQ below (k_Qi G A out (fun (_ : Unit) => [(h_a0, .inr (2, [g_a0_complete, g_a0_near, g_a0_second, g_a0_third, g_a0_growth, .ref h_a0_stacks, g_a0_names, .int v_a0_unsureCount, .ref h_a0_unsureStacks, .ref h_a0_unsurePlaces, .int v_a0_agreedCount, .ref h_a0_agreedStacks, .ref h_a0_agreedDistances, .ref h_a0_agreedLayers])), (h_a0_agreedDistances, .inl (k_cI G, 6, .inl w_a0_agreedDistances)), (h_a0_agreedLayers, .inl (k_cI G, 6, .inl w_a0_agreedLayers)), (h_a0_agreedStacks, .inl (k_cI G, 6, .inl w_a0_agreedStacks)), (h_a0_stacks, .inr (6, [.ref h_a0_stacks_rows, .ref h_a0_stacks_lengths, g_a0_stacks_count])), (h_a0_stacks_lengths, .inl (k_cI G, 5, .inl w_a0_stacks_lengths)), (h_a0_stacks_rows, .inl (k_cI G, 5, .inl w_a0_stacks_rows)), (h_a0_unsurePlaces, .inl (k_cI G, 4, .inl w_a0_unsurePlaces)), (h_a0_unsureStacks, .inl (k_cI G, 4, .inl w_a0_unsureStacks))])) args s 0 0 A) (F0 m 4 ls [])) : ∀ (x2 : Int32) (s0 : Int32) (s1 : Int32) (v_a0_agreedCount : Int32) (v_a0_unsureCount : Int32) (w_a0_agreedDistances : Nat → Int32) (w_a0_agreedLayers : Nat → Int32) (w_a0_agreedStacks : Nat → Int32) (w_a0_stacks_lengths : Nat → Int32) (w_a0_stacks_rows : Nat → Int32) (w_a0_unsurePlaces : Nat → Int32) (w_a0_unsureStacks : Nat → Int32) (H : Heap) (locs : List Loc) (ls : Array Slot), va_P G.1 vwCl [(h_a0, .inr (2, [g_a0_complete, g_a0_near, g_a0_second, g_a0_third, g_a0_growth, .ref h_a0_stacks, g_a0_names, .int v_a0_unsureCount, .ref h_a0_unsureStacks, .ref h_a0_unsurePlaces, .int v_a0_agreedCount, .ref h_a0_agreedStacks, .ref h_a0_agreedDistances, .ref h_a0_agreedLayers])), (h_a0_agreedDistances, .inl (k_cI G, 6, .inl w_a0_agreedDistances)), (h_a0_agreedLayers, .inl (k_cI G, 6, .inl w_a0_agreedLayers)), (h_a0_agreedStacks, .inl (k_cI G, 6, .inl w_a0_agreedStacks)), (h_a0_stacks, .inr (6, [.ref h_a0_stacks_rows, .ref h_a0_stacks_lengths, g_a0_stacks_count])), (h_a0_stacks_lengths, .inl (k_cI G, 5, .inl w_a0_stacks_lengths)), (h_a0_stacks_rows, .inl (k_cI G, 5, .inl w_a0_stacks_rows)), (h_a0_unsurePlaces, .inl (k_cI G, 4, .inl w_a0_unsurePlaces)), (h_a0_unsureStacks, .inl (k_cI G, 4, .inl w_a0_unsureStacks))] H → va_D A [(h_a0, .inr (2, [g_a0_complete, g_a0_near, g_a0_second, g_a0_third, g_a0_growth, .ref h_a0_stacks, g_a0_names, .int v_a0_unsureCount, .ref h_a0_unsureStacks, .ref h_a0_unsurePlaces, .int v_a0_agreedCount, .ref h_a0_agreedStacks, .ref h_a0_agreedDistances, .ref h_a0_agreedLayers])), (h_a0_agreedDistances, .inl (k_cI G, 6, .inl w_a0_agreedDistances)), (h_a0_agreedLayers, .inl (k_cI G, 6, .inl w_a0_agreedLayers)), (h_a0_agreedStacks, .inl (k_cI G, 6, .inl w_a0_agreedStacks)), (h_a0_stacks, .inr (6, [.ref h_a0_stacks_rows, .ref h_a0_stacks_lengths, g_a0_stacks_count])), (h_a0_stacks_lengths, .inl (k_cI G, 5, .inl w_a0_stacks_lengths)), (h_a0_stacks_rows, .inl (k_cI G, 5, .inl w_a0_stacks_rows)), (h_a0_unsurePlaces, .inl (k_cI G, 4, .inl w_a0_unsurePlaces)), (h_a0_unsureStacks, .inl (k_cI G, 4, .inl w_a0_unsureStacks))] → va_S A s.heap H locs → lv_has ls 3 [(0, .ref h_a0), (2, .int x2)] → f_X1_of_30 k4 x2 s0 s1 v_a0_agreedCount v_a0_unsureCount w_a0_agreedDistances w_a0_agreedLayers w_a0_agreedStacks w_a0_stacks_lengths w_a0_stacks_rows w_a0_unsurePlaces w_a0_unsureStacks = some out → W p l e rm_X1_of s m args below meth c H locs 0 0 (MQ below (k_Qi G A out (fun (_ : Unit) => [(h_a0, .inr (2, [g_a0_complete, g_a0_near, g_a0_second, g_a0_third, g_a0_growth, .ref h_a0_stacks, g_a0_names, .int v_a0_unsureCount, .ref h_a0_unsureStacks, .ref h_a0_unsurePlaces, .int v_a0_agreedCount, .ref h_a0_agreedStacks, .ref h_a0_agreedDistances, .ref h_a0_agreedLayers])), (h_a0_agreedDistances, .inl (k_cI G, 6, .inl w_a0_agreedDistances)), (h_a0_agreedLayers, .inl (k_cI G, 6, .inl w_a0_agreedLayers)), (h_a0_agreedStacks, .inl (k_cI G, 6, .inl w_a0_agreedStacks)), (h_a0_stacks, .inr (6, [.ref h_a0_stacks_rows, .ref h_a0_stacks_lengths, g_a0_stacks_count])), (h_a0_stacks_lengths, .inl (k_cI G, 5, .inl w_a0_stacks_lengths)), (h_a0_stacks_rows, .inl (k_cI G, 5, .inl w_a0_stacks_rows)), (h_a0_unsurePlaces, .inl (k_cI G, 4, .inl w_a0_unsurePlaces)), (h_a0_unsureStacks, .inl (k_cI G, 4, .inl w_a0_unsureStacks))])) args s 0 0 A) (F0 m 30 ls [.int s1, .int s0]) := by
  have hx := C0.1
  have hb := C0.2.1
  have hts := C0.2.2.2.1
  have hown := C0.2.2.2.2.1
  have hK := C0.2.2.2.2.2.2.2.2.1.1
  have hNW := C0.2.2.2.2.2.2.2.2.1.2.1
  have hSF := C0.2.2.2.2.2.2.2.2.1.2.2
  intro x2 s0 s1 v_a0_agreedCount v_a0_unsureCount w_a0_agreedDistances w_a0_agreedLayers w_a0_agreedStacks w_a0_stacks_lengths w_a0_stacks_rows w_a0_unsurePlaces w_a0_unsureStacks H locs ls hP hD hS hl hrun
  rw [f_X1_of_30] at hrun
  refine lv_ior hx hb dX1_of_30 ?_
  obtain ⟨n1, en, hrun⟩ := lt_inv hrun
  refine k_nmi en ?_
  clear en
  refine lv_istore_n (lv' := [(1, .int n1), (0, .ref h_a0), (2, .int x2)]) hx hb dX1_of_31 rfl hl (by decide) rfl (fun ls hl => ?_)
  refine lv_iinc (v := x2 + 1) (lv' := [(2, .int (x2 + 1)), (1, .int n1), (0, .ref h_a0)]) hx hb dX1_of_32 hl (k := 2) rfl rfl (by decide) rfl (fun ls hl => ?_)
  refine lv_goto (tgt := 4) hx hb dX1_of_35 (by decide) ?_
  exact hk4 n1 (x2 + 1) v_a0_agreedCount v_a0_unsureCount w_a0_agreedDistances w_a0_agreedLayers w_a0_agreedStacks w_a0_stacks_lengths w_a0_stacks_rows w_a0_unsurePlaces w_a0_unsureStacks _ _ _ hP hD hS (lv_sub hl [2, 1, 0] rfl) hrun
set_option maxHeartbeats 4000000 in
set_option maxRecDepth 100000 in
theorem t_X1_of_4 {l : Launch} {G : k_G} {p : Program} {e : Env} {s : State} {m : MethodId} {args : Array Value} {below : List Frame} {meth : Method} {c : Code} {A : Nat → Prop} {h_a0 h_a0_agreedDistances h_a0_agreedLayers h_a0_agreedStacks h_a0_stacks h_a0_stacks_lengths h_a0_stacks_rows h_a0_unsurePlaces h_a0_unsureStacks : Nat} {g_a0_complete g_a0_near g_a0_second g_a0_third g_a0_growth g_a0_names g_a0_stacks_count : Value} {out : Int32} (C0 : k_C G p s m args meth c A cX1_of RX1 wsX1_of 3 (some .int) "of") : ∀ (n : Nat) (x1 : Int32) (x2 : Int32) (v_a0_agreedCount : Int32) (v_a0_unsureCount : Int32) (w_a0_agreedDistances : Nat → Int32) (w_a0_agreedLayers : Nat → Int32) (w_a0_agreedStacks : Nat → Int32) (w_a0_stacks_lengths : Nat → Int32) (w_a0_stacks_rows : Nat → Int32) (w_a0_unsurePlaces : Nat → Int32) (w_a0_unsureStacks : Nat → Int32) (H : Heap) (locs : List Loc) (ls : Array Slot), va_P G.1 vwCl [(h_a0, .inr (2, [g_a0_complete, g_a0_near, g_a0_second, g_a0_third, g_a0_growth, .ref h_a0_stacks, g_a0_names, .int v_a0_unsureCount, .ref h_a0_unsureStacks, .ref h_a0_unsurePlaces, .int v_a0_agreedCount, .ref h_a0_agreedStacks, .ref h_a0_agreedDistances, .ref h_a0_agreedLayers])), (h_a0_agreedDistances, .inl (k_cI G, 6, .inl w_a0_agreedDistances)), (h_a0_agreedLayers, .inl (k_cI G, 6, .inl w_a0_agreedLayers)), (h_a0_agreedStacks, .inl (k_cI G, 6, .inl w_a0_agreedStacks)), (h_a0_stacks, .inr (6, [.ref h_a0_stacks_rows, .ref h_a0_stacks_lengths, g_a0_stacks_count])), (h_a0_stacks_lengths, .inl (k_cI G, 5, .inl w_a0_stacks_lengths)), (h_a0_stacks_rows, .inl (k_cI G, 5, .inl w_a0_stacks_rows)), (h_a0_unsurePlaces, .inl (k_cI G, 4, .inl w_a0_unsurePlaces)), (h_a0_unsureStacks, .inl (k_cI G, 4, .inl w_a0_unsureStacks))] H → va_D A [(h_a0, .inr (2, [g_a0_complete, g_a0_near, g_a0_second, g_a0_third, g_a0_growth, .ref h_a0_stacks, g_a0_names, .int v_a0_unsureCount, .ref h_a0_unsureStacks, .ref h_a0_unsurePlaces, .int v_a0_agreedCount, .ref h_a0_agreedStacks, .ref h_a0_agreedDistances, .ref h_a0_agreedLayers])), (h_a0_agreedDistances, .inl (k_cI G, 6, .inl w_a0_agreedDistances)), (h_a0_agreedLayers, .inl (k_cI G, 6, .inl w_a0_agreedLayers)), (h_a0_agreedStacks, .inl (k_cI G, 6, .inl w_a0_agreedStacks)), (h_a0_stacks, .inr (6, [.ref h_a0_stacks_rows, .ref h_a0_stacks_lengths, g_a0_stacks_count])), (h_a0_stacks_lengths, .inl (k_cI G, 5, .inl w_a0_stacks_lengths)), (h_a0_stacks_rows, .inl (k_cI G, 5, .inl w_a0_stacks_rows)), (h_a0_unsurePlaces, .inl (k_cI G, 4, .inl w_a0_unsurePlaces)), (h_a0_unsureStacks, .inl (k_cI G, 4, .inl w_a0_unsureStacks))] → va_S A s.heap H locs → lv_has ls 3 [(0, .ref h_a0), (1, .int x1), (2, .int x2)] → f_X1_of_4 n x1 x2 v_a0_agreedCount v_a0_unsureCount w_a0_agreedDistances w_a0_agreedLayers w_a0_agreedStacks w_a0_stacks_lengths w_a0_stacks_rows w_a0_unsurePlaces w_a0_unsureStacks = some out → W p l e rm_X1_of s m args below meth c H locs 0 0 (MQ below (k_Qi G A out (fun (_ : Unit) => [(h_a0, .inr (2, [g_a0_complete, g_a0_near, g_a0_second, g_a0_third, g_a0_growth, .ref h_a0_stacks, g_a0_names, .int v_a0_unsureCount, .ref h_a0_unsureStacks, .ref h_a0_unsurePlaces, .int v_a0_agreedCount, .ref h_a0_agreedStacks, .ref h_a0_agreedDistances, .ref h_a0_agreedLayers])), (h_a0_agreedDistances, .inl (k_cI G, 6, .inl w_a0_agreedDistances)), (h_a0_agreedLayers, .inl (k_cI G, 6, .inl w_a0_agreedLayers)), (h_a0_agreedStacks, .inl (k_cI G, 6, .inl w_a0_agreedStacks)), (h_a0_stacks, .inr (6, [.ref h_a0_stacks_rows, .ref h_a0_stacks_lengths, g_a0_stacks_count])), (h_a0_stacks_lengths, .inl (k_cI G, 5, .inl w_a0_stacks_lengths)), (h_a0_stacks_rows, .inl (k_cI G, 5, .inl w_a0_stacks_rows)), (h_a0_unsurePlaces, .inl (k_cI G, 4, .inl w_a0_unsurePlaces)), (h_a0_unsureStacks, .inl (k_cI G, 4, .inl w_a0_unsureStacks))])) args s 0 0 A) (F0 m 4 ls []) := by
  have hx := C0.1
  have hb := C0.2.1
  have hts := C0.2.2.2.1
  have hown := C0.2.2.2.2.1
  have hK := C0.2.2.2.2.2.2.2.2.1.1
  have hNW := C0.2.2.2.2.2.2.2.2.1.2.1
  have hSF := C0.2.2.2.2.2.2.2.2.1.2.2
  intro n
  induction n with
  | zero =>
    intro x1 x2 v_a0_agreedCount v_a0_unsureCount w_a0_agreedDistances w_a0_agreedLayers w_a0_agreedStacks w_a0_stacks_lengths w_a0_stacks_rows w_a0_unsurePlaces w_a0_unsureStacks H locs ls hP hD hS hl hrun
    rw [f_X1_of_4] at hrun
    cases hrun
  | succ n ih =>
    intro x1 x2 v_a0_agreedCount v_a0_unsureCount w_a0_agreedDistances w_a0_agreedLayers w_a0_agreedStacks w_a0_stacks_lengths w_a0_stacks_rows w_a0_unsurePlaces w_a0_unsureStacks H locs ls hP hD hS hl hrun
    rw [f_X1_of_4] at hrun
    refine lv_iload_n hx hb dX1_of_4 rfl (lv_at hl 2 rfl) ?_
    refine lv_iconst (v := 1) hx hb dX1_of_5 (by decide) ?_
    refine lv_aload_n hx hb dX1_of_6 rfl (lv_at hl 0 rfl) ?_
    refine va_getN (D := G.1) (ci := 2) (v := .int v_a0_unsureCount) (C := RX4) (T := TX4) (N := 14) hx hb hts n_X1_of_X4 hown hK hP 0 rfl rfl 7 (by decide) (va_Nw.use rfl (k_nw hNW 44 nw_X1_of_44)) (fun _ h9 => h9) rfl dX1_of_7 ?_
    refine lv_ishl hx hb dX1_of_10 ?_
    refine lv_icmp_ge (tgt := 38) hx hb dX1_of_11 (by decide) (fun q1 => ?_) (fun q1 => ?_)
    · replace hrun := if_t q1 hrun
      refine lv_iload_n hx hb dX1_of_38 rfl (lv_at hl 1 rfl) ?_
      obtain rfl := Option.some.inj hrun
      exact k_reti C0 hP hD hS () rfl rfl dX1_of_39
    · replace hrun := if_f q1 hrun
      refine lv_iload_n hx hb dX1_of_14 rfl (lv_at hl 1 rfl) ?_
      refine lv_aload_n hx hb dX1_of_15 rfl (lv_at hl 0 rfl) ?_
      refine lv_iload_n hx hb dX1_of_16 rfl (lv_at hl 2 rfl) ?_
      obtain ⟨t2, et2, hrun⟩ := bd_inv hrun
      refine k_calli (w2 := fun (_ : Unit) => [(h_a0, .inr (2, [g_a0_complete, g_a0_near, g_a0_second, g_a0_third, g_a0_growth, .ref h_a0_stacks, g_a0_names, .int v_a0_unsureCount, .ref h_a0_unsureStacks, .ref h_a0_unsurePlaces, .int v_a0_agreedCount, .ref h_a0_agreedStacks, .ref h_a0_agreedDistances, .ref h_a0_agreedLayers])), (h_a0_agreedDistances, .inl (k_cI G, 6, .inl w_a0_agreedDistances)), (h_a0_agreedLayers, .inl (k_cI G, 6, .inl w_a0_agreedLayers)), (h_a0_agreedStacks, .inl (k_cI G, 6, .inl w_a0_agreedStacks)), (h_a0_stacks, .inr (6, [.ref h_a0_stacks_rows, .ref h_a0_stacks_lengths, g_a0_stacks_count])), (h_a0_stacks_lengths, .inl (k_cI G, 5, .inl w_a0_stacks_lengths)), (h_a0_stacks_rows, .inl (k_cI G, 5, .inl w_a0_stacks_rows)), (h_a0_unsurePlaces, .inl (k_cI G, 4, .inl w_a0_unsurePlaces)), (h_a0_unsureStacks, .inl (k_cI G, 4, .inl w_a0_unsureStacks))]) C0 (k_runS (rest := [.int x1]) C0 (c_X1_areAllSo et2) (va_cwS 2 hts gX1_of_X1_areAllSo rfl rfl rfl e_X1_areAllSo.2 ⟨Nat.le_of_ble_eq_true rfl, Nat.le_of_ble_eq_true rfl⟩) hP hD hS [0, 1, 2, 3, 4, 5, 6, 7, 8] rfl (by decide) rfl hl.1 rfl (Nat.le_of_ble_eq_true rfl) dX1_of_17 ⟨Nat.le_of_ble_eq_true rfl, Nat.le_of_ble_eq_true rfl⟩) hP hD hS [0, 1, 2, 3, 4, 5, 6, 7, 8] [] rfl rfl (by decide) (by decide) [0, 1, 2, 3, 4, 5, 6, 7, 8] (by decide) (fun _ => rfl) (fun _ H locs hP hD hS => ?_)
      have hP : va_P G.1 vwCl [(h_a0, .inr (2, [g_a0_complete, g_a0_near, g_a0_second, g_a0_third, g_a0_growth, .ref h_a0_stacks, g_a0_names, .int v_a0_unsureCount, .ref h_a0_unsureStacks, .ref h_a0_unsurePlaces, .int v_a0_agreedCount, .ref h_a0_agreedStacks, .ref h_a0_agreedDistances, .ref h_a0_agreedLayers])), (h_a0_agreedDistances, .inl (k_cI G, 6, .inl w_a0_agreedDistances)), (h_a0_agreedLayers, .inl (k_cI G, 6, .inl w_a0_agreedLayers)), (h_a0_agreedStacks, .inl (k_cI G, 6, .inl w_a0_agreedStacks)), (h_a0_stacks, .inr (6, [.ref h_a0_stacks_rows, .ref h_a0_stacks_lengths, g_a0_stacks_count])), (h_a0_stacks_lengths, .inl (k_cI G, 5, .inl w_a0_stacks_lengths)), (h_a0_stacks_rows, .inl (k_cI G, 5, .inl w_a0_stacks_rows)), (h_a0_unsurePlaces, .inl (k_cI G, 4, .inl w_a0_unsurePlaces)), (h_a0_unsureStacks, .inl (k_cI G, 4, .inl w_a0_unsureStacks))] H := hP
      have hD : va_D A [(h_a0, .inr (2, [g_a0_complete, g_a0_near, g_a0_second, g_a0_third, g_a0_growth, .ref h_a0_stacks, g_a0_names, .int v_a0_unsureCount, .ref h_a0_unsureStacks, .ref h_a0_unsurePlaces, .int v_a0_agreedCount, .ref h_a0_agreedStacks, .ref h_a0_agreedDistances, .ref h_a0_agreedLayers])), (h_a0_agreedDistances, .inl (k_cI G, 6, .inl w_a0_agreedDistances)), (h_a0_agreedLayers, .inl (k_cI G, 6, .inl w_a0_agreedLayers)), (h_a0_agreedStacks, .inl (k_cI G, 6, .inl w_a0_agreedStacks)), (h_a0_stacks, .inr (6, [.ref h_a0_stacks_rows, .ref h_a0_stacks_lengths, g_a0_stacks_count])), (h_a0_stacks_lengths, .inl (k_cI G, 5, .inl w_a0_stacks_lengths)), (h_a0_stacks_rows, .inl (k_cI G, 5, .inl w_a0_stacks_rows)), (h_a0_unsurePlaces, .inl (k_cI G, 4, .inl w_a0_unsurePlaces)), (h_a0_unsureStacks, .inl (k_cI G, 4, .inl w_a0_unsureStacks))] := hD
      refine lv_if_eq (tgt := 29) hx hb dX1_of_20 (by decide) (fun q3 => ?_) (fun q3 => ?_)
      · replace hrun := if_t q3 hrun
        refine lv_iconst (v := 0) hx hb dX1_of_29 (by decide) ?_
        exact t_X1_of_30 C0 (fun x1 x2 v_a0_agreedCount v_a0_unsureCount w_a0_agreedDistances w_a0_agreedLayers w_a0_agreedStacks w_a0_stacks_lengths w_a0_stacks_rows w_a0_unsurePlaces w_a0_unsureStacks => f_X1_of_4 n x1 x2 v_a0_agreedCount v_a0_unsureCount w_a0_agreedDistances w_a0_agreedLayers w_a0_agreedStacks w_a0_stacks_lengths w_a0_stacks_rows w_a0_unsurePlaces w_a0_unsureStacks) ih x2 x1 (0 : Int32) v_a0_agreedCount v_a0_unsureCount w_a0_agreedDistances w_a0_agreedLayers w_a0_agreedStacks w_a0_stacks_lengths w_a0_stacks_rows w_a0_unsurePlaces w_a0_unsureStacks _ _ _ hP hD hS (lv_sub hl [0, 2] rfl) hrun
      · replace hrun := if_f q3 hrun
        refine lv_iconst (v := 1) hx hb dX1_of_23 (by decide) ?_
        refine lv_iload_n hx hb dX1_of_24 rfl (lv_at hl 2 rfl) ?_
        refine lv_ishl hx hb dX1_of_25 ?_
        refine lv_goto (tgt := 30) hx hb dX1_of_26 (by decide) ?_
        exact t_X1_of_30 C0 (fun x1 x2 v_a0_agreedCount v_a0_unsureCount w_a0_agreedDistances w_a0_agreedLayers w_a0_agreedStacks w_a0_stacks_lengths w_a0_stacks_rows w_a0_unsurePlaces w_a0_unsureStacks => f_X1_of_4 n x1 x2 v_a0_agreedCount v_a0_unsureCount w_a0_agreedDistances w_a0_agreedLayers w_a0_agreedStacks w_a0_stacks_lengths w_a0_stacks_rows w_a0_unsurePlaces w_a0_unsureStacks) ih x2 x1 ((1 : Int32) <<< (x2 &&& 31)) v_a0_agreedCount v_a0_unsureCount w_a0_agreedDistances w_a0_agreedLayers w_a0_agreedStacks w_a0_stacks_lengths w_a0_stacks_rows w_a0_unsurePlaces w_a0_unsureStacks _ _ _ hP hD hS (lv_sub hl [0, 2] rfl) hrun
set_option maxHeartbeats 4000000 in
set_option maxRecDepth 100000 in
theorem c_X1_of {l : Launch} {G : k_G} {h_a0 h_a0_agreedDistances h_a0_agreedLayers h_a0_agreedStacks h_a0_stacks h_a0_stacks_lengths h_a0_stacks_rows h_a0_unsurePlaces h_a0_unsureStacks : Nat} {g_a0_complete g_a0_near g_a0_second g_a0_third g_a0_growth g_a0_names g_a0_stacks_count : Value} {sz : Nat} {v_a0_agreedCount : Int32} {v_a0_unsureCount : Int32} {w_a0_agreedDistances : Nat → Int32} {w_a0_agreedLayers : Nat → Int32} {w_a0_agreedStacks : Nat → Int32} {w_a0_stacks_lengths : Nat → Int32} {w_a0_stacks_rows : Nat → Int32} {w_a0_unsurePlaces : Nat → Int32} {w_a0_unsureStacks : Nat → Int32} {out : Int32} (hrun : f_X1_of v_a0_agreedCount v_a0_unsureCount w_a0_agreedDistances w_a0_agreedLayers w_a0_agreedStacks w_a0_stacks_lengths w_a0_stacks_rows w_a0_unsurePlaces w_a0_unsureStacks = some out) : k_Ci l G yX1_of wsX1_of rm_X1_of [.ref h_a0] [(h_a0, .inr (2, [g_a0_complete, g_a0_near, g_a0_second, g_a0_third, g_a0_growth, .ref h_a0_stacks, g_a0_names, .int v_a0_unsureCount, .ref h_a0_unsureStacks, .ref h_a0_unsurePlaces, .int v_a0_agreedCount, .ref h_a0_agreedStacks, .ref h_a0_agreedDistances, .ref h_a0_agreedLayers])), (h_a0_agreedDistances, .inl (k_cI G, 6, .inl w_a0_agreedDistances)), (h_a0_agreedLayers, .inl (k_cI G, 6, .inl w_a0_agreedLayers)), (h_a0_agreedStacks, .inl (k_cI G, 6, .inl w_a0_agreedStacks)), (h_a0_stacks, .inr (6, [.ref h_a0_stacks_rows, .ref h_a0_stacks_lengths, g_a0_stacks_count])), (h_a0_stacks_lengths, .inl (k_cI G, 5, .inl w_a0_stacks_lengths)), (h_a0_stacks_rows, .inl (k_cI G, 5, .inl w_a0_stacks_rows)), (h_a0_unsurePlaces, .inl (k_cI G, 4, .inl w_a0_unsurePlaces)), (h_a0_unsureStacks, .inl (k_cI G, 4, .inl w_a0_unsureStacks))] sz out (fun (_ : Unit) => [(h_a0, .inr (2, [g_a0_complete, g_a0_near, g_a0_second, g_a0_third, g_a0_growth, .ref h_a0_stacks, g_a0_names, .int v_a0_unsureCount, .ref h_a0_unsureStacks, .ref h_a0_unsurePlaces, .int v_a0_agreedCount, .ref h_a0_agreedStacks, .ref h_a0_agreedDistances, .ref h_a0_agreedLayers])), (h_a0_agreedDistances, .inl (k_cI G, 6, .inl w_a0_agreedDistances)), (h_a0_agreedLayers, .inl (k_cI G, 6, .inl w_a0_agreedLayers)), (h_a0_agreedStacks, .inl (k_cI G, 6, .inl w_a0_agreedStacks)), (h_a0_stacks, .inr (6, [.ref h_a0_stacks_rows, .ref h_a0_stacks_lengths, g_a0_stacks_count])), (h_a0_stacks_lengths, .inl (k_cI G, 5, .inl w_a0_stacks_lengths)), (h_a0_stacks_rows, .inl (k_cI G, 5, .inl w_a0_stacks_rows)), (h_a0_unsurePlaces, .inl (k_cI G, 4, .inl w_a0_unsurePlaces)), (h_a0_unsureStacks, .inl (k_cI G, 4, .inl w_a0_unsureStacks))]) 0 0 := by
  refine k_of (cc := cX1_of) (nL := 3) (ret := some .int) (own := RX1) (nm := "of") (by decide) rfl rfl rfl rfl ?_
  intro p e s m args below meth c ls hsz C0 hP hD hS hl
  have hl : lv_has ls 3 [(0, .ref h_a0)] := hl
  generalize hH : s.heap = H at hP
  have hS : va_S (va_A [(h_a0, .inr (2, [g_a0_complete, g_a0_near, g_a0_second, g_a0_third, g_a0_growth, .ref h_a0_stacks, g_a0_names, .int v_a0_unsureCount, .ref h_a0_unsureStacks, .ref h_a0_unsurePlaces, .int v_a0_agreedCount, .ref h_a0_agreedStacks, .ref h_a0_agreedDistances, .ref h_a0_agreedLayers])), (h_a0_agreedDistances, .inl (k_cI G, 6, .inl w_a0_agreedDistances)), (h_a0_agreedLayers, .inl (k_cI G, 6, .inl w_a0_agreedLayers)), (h_a0_agreedStacks, .inl (k_cI G, 6, .inl w_a0_agreedStacks)), (h_a0_stacks, .inr (6, [.ref h_a0_stacks_rows, .ref h_a0_stacks_lengths, g_a0_stacks_count])), (h_a0_stacks_lengths, .inl (k_cI G, 5, .inl w_a0_stacks_lengths)), (h_a0_stacks_rows, .inl (k_cI G, 5, .inl w_a0_stacks_rows)), (h_a0_unsurePlaces, .inl (k_cI G, 4, .inl w_a0_unsurePlaces)), (h_a0_unsureStacks, .inl (k_cI G, 4, .inl w_a0_unsureStacks))] sz) s.heap H [] := by rw [← hH]; exact hS
  clear hH
  generalize va_A [(h_a0, .inr (2, [g_a0_complete, g_a0_near, g_a0_second, g_a0_third, g_a0_growth, .ref h_a0_stacks, g_a0_names, .int v_a0_unsureCount, .ref h_a0_unsureStacks, .ref h_a0_unsurePlaces, .int v_a0_agreedCount, .ref h_a0_agreedStacks, .ref h_a0_agreedDistances, .ref h_a0_agreedLayers])), (h_a0_agreedDistances, .inl (k_cI G, 6, .inl w_a0_agreedDistances)), (h_a0_agreedLayers, .inl (k_cI G, 6, .inl w_a0_agreedLayers)), (h_a0_agreedStacks, .inl (k_cI G, 6, .inl w_a0_agreedStacks)), (h_a0_stacks, .inr (6, [.ref h_a0_stacks_rows, .ref h_a0_stacks_lengths, g_a0_stacks_count])), (h_a0_stacks_lengths, .inl (k_cI G, 5, .inl w_a0_stacks_lengths)), (h_a0_stacks_rows, .inl (k_cI G, 5, .inl w_a0_stacks_rows)), (h_a0_unsurePlaces, .inl (k_cI G, 4, .inl w_a0_unsurePlaces)), (h_a0_unsureStacks, .inl (k_cI G, 4, .inl w_a0_unsureStacks))] sz = A at C0 hD hS ⊢
  have hx := C0.1
  have hb := C0.2.1
  have hts := C0.2.2.2.1
  have hown := C0.2.2.2.2.1
  have hK := C0.2.2.2.2.2.2.2.2.1.1
  have hNW := C0.2.2.2.2.2.2.2.2.1.2.1
  have hSF := C0.2.2.2.2.2.2.2.2.1.2.2
  rw [f_X1_of] at hrun
  refine lv_iconst (v := 0) hx hb dX1_of_0 (by decide) ?_
  refine lv_istore_n (lv' := [(1, .int (0 : Int32)), (0, .ref h_a0)]) hx hb dX1_of_1 rfl hl (by decide) rfl (fun ls hl => ?_)
  refine lv_iconst (v := 0) hx hb dX1_of_2 (by decide) ?_
  refine lv_istore_n (lv' := [(2, .int (0 : Int32)), (1, .int (0 : Int32)), (0, .ref h_a0)]) hx hb dX1_of_3 rfl hl (by decide) rfl (fun ls hl => ?_)
  exact t_X1_of_4 C0 kFU (0 : Int32) (0 : Int32) v_a0_agreedCount v_a0_unsureCount w_a0_agreedDistances w_a0_agreedLayers w_a0_agreedStacks w_a0_stacks_lengths w_a0_stacks_rows w_a0_unsurePlaces w_a0_unsureStacks _ _ _ hP hD hS (lv_sub hl [2, 1, 0] rfl) hrun
abbrev rm_X1_setAt : Room := { frames := 1, cells := 0, slots := 0, locals := 21 }
theorem e_X1_setAt : yX1_setAt.cls = RX1 ∧ yX1_setAt.cls ≠ "java/lang/invoke/MethodHandle" ∧ yX1_setAt.cls ≠ "java/lang/invoke/VarHandle" ∧ (parseMethodDescriptor yX1_setAt.desc).map (fun d => d.parameters.length) = some 2 := by decide +kernel
set_option maxHeartbeats 4000000 in
set_option maxRecDepth 100000 in
theorem t_X1_setAt_28 {l : Launch} {G : k_G} {p : Program} {e : Env} {s : State} {m : MethodId} {args : Array Value} {below : List Frame} {meth : Method} {c : Code} {A : Nat → Prop} {out : Int32} (C0 : k_C G p s m args meth c A cX1_setAt RX1 wsX1_setAt 4 (some .int) "setAt") (k4 : Int32 → Int32 → Int32 → Int32 → Option (Int32)) (hk4 : ∀ (x0 : Int32) (x1 : Int32) (x2 : Int32) (x3 : Int32) (H : Heap) (locs : List Loc) (ls : Array Slot), va_P G.1 vwCl [] H → va_D A [] → va_S A s.heap H locs → lv_has ls 4 [(0, .int x0), (1, .int x1), (2, .int x2), (3, .int x3)] → k4 x0 x1 x2 x3 = some out → W p l e rm_X1_setAt s m args below meth c H locs 0 0 (MQ below (k_Qi G A out (fun (_ : Unit) => [])) args s 0 0 A) (F0 m 4 ls [])) : ∀ (x0 : Int32) (x1 : Int32) (x2 : Int32) (x3 : Int32) (H : Heap) (locs : List Loc) (ls : Array Slot), va_P G.1 vwCl [] H → va_D A [] → va_S A s.heap H locs → lv_has ls 4 [(0, .int x0), (1, .int x1), (2, .int x2), (3, .int x3)] → f_X1_setAt_28 k4 x0 x1 x2 x3 = some out → W p l e rm_X1_setAt s m args below meth c H locs 0 0 (MQ below (k_Qi G A out (fun (_ : Unit) => [])) args s 0 0 A) (F0 m 28 ls []) := by
  have hx := C0.1
  have hb := C0.2.1
  have hts := C0.2.2.2.1
  have hown := C0.2.2.2.2.1
  have hK := C0.2.2.2.2.2.2.2.2.1.1
  have hNW := C0.2.2.2.2.2.2.2.2.1.2.1
  have hSF := C0.2.2.2.2.2.2.2.2.1.2.2
  intro x0 x1 x2 x3 H locs ls hP hD hS hl hrun
  rw [f_X1_setAt_28] at hrun
  refine lv_iinc (v := x3 + 1) (lv' := [(3, .int (x3 + 1)), (0, .int x0), (1, .int x1), (2, .int x2)]) hx hb dX1_setAt_28 hl (k := 3) rfl rfl (by decide) rfl (fun ls hl => ?_)
  refine lv_goto (tgt := 4) hx hb dX1_setAt_31 (by decide) ?_
  exact hk4 x0 x1 x2 (x3 + 1) _ _ _ hP hD hS (lv_sub hl [1, 2, 3, 0] rfl) hrun
set_option maxHeartbeats 4000000 in
set_option maxRecDepth 100000 in
theorem t_X1_setAt_4 {l : Launch} {G : k_G} {p : Program} {e : Env} {s : State} {m : MethodId} {args : Array Value} {below : List Frame} {meth : Method} {c : Code} {A : Nat → Prop} {out : Int32} (C0 : k_C G p s m args meth c A cX1_setAt RX1 wsX1_setAt 4 (some .int) "setAt") : ∀ (n : Nat) (x0 : Int32) (x1 : Int32) (x2 : Int32) (x3 : Int32) (H : Heap) (locs : List Loc) (ls : Array Slot), va_P G.1 vwCl [] H → va_D A [] → va_S A s.heap H locs → lv_has ls 4 [(0, .int x0), (1, .int x1), (2, .int x2), (3, .int x3)] → f_X1_setAt_4 n x0 x1 x2 x3 = some out → W p l e rm_X1_setAt s m args below meth c H locs 0 0 (MQ below (k_Qi G A out (fun (_ : Unit) => [])) args s 0 0 A) (F0 m 4 ls []) := by
  have hx := C0.1
  have hb := C0.2.1
  have hts := C0.2.2.2.1
  have hown := C0.2.2.2.2.1
  have hK := C0.2.2.2.2.2.2.2.2.1.1
  have hNW := C0.2.2.2.2.2.2.2.2.1.2.1
  have hSF := C0.2.2.2.2.2.2.2.2.1.2.2
  intro n
  induction n with
  | zero =>
    intro x0 x1 x2 x3 H locs ls hP hD hS hl hrun
    rw [f_X1_setAt_4] at hrun
    cases hrun
  | succ n ih =>
    intro x0 x1 x2 x3 H locs ls hP hD hS hl hrun
    rw [f_X1_setAt_4] at hrun
    refine lv_iload_n hx hb dX1_setAt_4 rfl (lv_at hl 3 rfl) ?_
    refine lv_bipush (v := 16) hx hb dX1_setAt_5 (by decide) ?_
    refine lv_icmp_ge (tgt := 34) hx hb dX1_setAt_7 (by decide) (fun q1 => ?_) (fun q1 => ?_)
    · replace hrun := if_t q1 hrun
      refine lv_iconst (v := -1) hx hb dX1_setAt_34 (by decide) ?_
      obtain rfl := Option.some.inj hrun
      exact k_reti C0 hP hD hS () rfl rfl dX1_setAt_35
    · replace hrun := if_f q1 hrun
      refine lv_iload_n hx hb dX1_setAt_10 rfl (lv_at hl 0 rfl) ?_
      refine lv_iload_n hx hb dX1_setAt_11 rfl (lv_at hl 3 rfl) ?_
      obtain ⟨t2, et2, hrun⟩ := bd_inv hrun
      refine k_calli0 C0 (k_runS (rest := []) C0 (c_X1_has et2) (va_cwS 2 hts gX1_setAt_X1_has rfl rfl rfl e_X1_has.2 ⟨Nat.le_of_ble_eq_true rfl, Nat.le_of_ble_eq_true rfl⟩) hP hD hS [] rfl (by decide) rfl hl.1 rfl (Nat.le_of_ble_eq_true rfl) dX1_setAt_12 ⟨Nat.le_of_ble_eq_true rfl, Nat.le_of_ble_eq_true rfl⟩) hP hS (fun H locs hP hS => ?_)
      refine lv_if_eq (tgt := 28) hx hb dX1_setAt_15 (by decide) (fun q3 => ?_) (fun q3 => ?_)
      · replace hrun := if_t q3 hrun
        exact t_X1_setAt_28 C0 (fun x0 x1 x2 x3 => f_X1_setAt_4 n x0 x1 x2 x3) ih x0 x1 x2 x3 _ _ _ hP hD hS hl hrun
      · replace hrun := if_f q3 hrun
        refine lv_iload_n hx hb dX1_setAt_18 rfl (lv_at hl 2 rfl) ?_
        refine lv_iload_n hx hb dX1_setAt_19 rfl (lv_at hl 1 rfl) ?_
        refine lv_icmp_ne (tgt := 25) hx hb dX1_setAt_20 (by decide) (fun q4 => ?_) (fun q4 => ?_)
        · replace hrun := if_f q4 hrun
          refine lv_iinc (v := x2 + 1) (lv' := [(2, .int (x2 + 1)), (0, .int x0), (1, .int x1), (3, .int x3)]) hx hb dX1_setAt_25 hl (k := 2) rfl rfl (by decide) rfl (fun ls hl => ?_)
          exact t_X1_setAt_28 C0 (fun x0 x1 x2 x3 => f_X1_setAt_4 n x0 x1 x2 x3) ih x0 x1 (x2 + 1) x3 _ _ _ hP hD hS (lv_sub hl [1, 2, 0, 3] rfl) hrun
        · replace hrun := if_t q4 hrun
          refine lv_iload_n hx hb dX1_setAt_23 rfl (lv_at hl 3 rfl) ?_
          obtain rfl := Option.some.inj hrun
          exact k_reti C0 hP hD hS () rfl rfl dX1_setAt_24
set_option maxHeartbeats 4000000 in
set_option maxRecDepth 100000 in
theorem c_X1_setAt {l : Launch} {G : k_G} {sz : Nat} {p0 : Int32} {p1 : Int32} {out : Int32} (hrun : f_X1_setAt p0 p1 = some out) : k_Ci l G yX1_setAt wsX1_setAt rm_X1_setAt [.int p0, .int p1] [] sz out (fun (_ : Unit) => []) 0 0 := by
  refine k_of (cc := cX1_setAt) (nL := 4) (ret := some .int) (own := RX1) (nm := "setAt") (by decide) rfl rfl rfl rfl ?_
  intro p e s m args below meth c ls hsz C0 hP hD hS hl
  have hl : lv_has ls 4 [(0, .int p0), (1, .int p1)] := hl
  generalize hH : s.heap = H at hP
  have hS : va_S (va_A [] sz) s.heap H [] := by rw [← hH]; exact hS
  clear hH
  generalize va_A [] sz = A at C0 hD hS ⊢
  have hx := C0.1
  have hb := C0.2.1
  have hts := C0.2.2.2.1
  have hown := C0.2.2.2.2.1
  have hK := C0.2.2.2.2.2.2.2.2.1.1
  have hNW := C0.2.2.2.2.2.2.2.2.1.2.1
  have hSF := C0.2.2.2.2.2.2.2.2.1.2.2
  rw [f_X1_setAt] at hrun
  refine lv_iconst (v := 0) hx hb dX1_setAt_0 (by decide) ?_
  refine lv_istore_n (lv' := [(2, .int (0 : Int32)), (0, .int p0), (1, .int p1)]) hx hb dX1_setAt_1 rfl hl (by decide) rfl (fun ls hl => ?_)
  refine lv_iconst (v := 0) hx hb dX1_setAt_2 (by decide) ?_
  refine lv_istore_n (lv' := [(3, .int (0 : Int32)), (2, .int (0 : Int32)), (0, .int p0), (1, .int p1)]) hx hb dX1_setAt_3 rfl hl (by decide) rfl (fun ls hl => ?_)
  exact t_X1_setAt_4 C0 kFU p0 p1 (0 : Int32) (0 : Int32) _ _ _ hP hD hS (lv_sub hl [2, 3, 1, 0] rfl) hrun
abbrev rm_X1_inSome : Room := { frames := 1, cells := 0, slots := 0, locals := 21 }
theorem e_X1_inSome : yX1_inSome.cls = RX1 ∧ yX1_inSome.cls ≠ "java/lang/invoke/MethodHandle" ∧ yX1_inSome.cls ≠ "java/lang/invoke/VarHandle" ∧ (parseMethodDescriptor yX1_inSome.desc).map (fun d => d.parameters.length) = some 1 := by decide +kernel
set_option maxHeartbeats 4000000 in
set_option maxRecDepth 100000 in
theorem t_X1_inSome_24 {l : Launch} {G : k_G} {p : Program} {e : Env} {s : State} {m : MethodId} {args : Array Value} {below : List Frame} {meth : Method} {c : Code} {A : Nat → Prop} {out : Int32} (C0 : k_C G p s m args meth c A cX1_inSome RX1 wsX1_inSome 3 (some .int) "inSome") (k4 : Int32 → Int32 → Int32 → Option (Int32)) (hk4 : ∀ (x0 : Int32) (x1 : Int32) (x2 : Int32) (H : Heap) (locs : List Loc) (ls : Array Slot), va_P G.1 vwCl [] H → va_D A [] → va_S A s.heap H locs → lv_has ls 3 [(0, .int x0), (1, .int x1), (2, .int x2)] → k4 x0 x1 x2 = some out → W p l e rm_X1_inSome s m args below meth c H locs 0 0 (MQ below (k_Qi G A out (fun (_ : Unit) => [])) args s 0 0 A) (F0 m 4 ls [])) : ∀ (x0 : Int32) (x2 : Int32) (s0 : Int32) (s1 : Int32) (H : Heap) (locs : List Loc) (ls : Array Slot), va_P G.1 vwCl [] H → va_D A [] → va_S A s.heap H locs → lv_has ls 3 [(0, .int x0), (2, .int x2)] → f_X1_inSome_24 k4 x0 x2 s0 s1 = some out → W p l e rm_X1_inSome s m args below meth c H locs 0 0 (MQ below (k_Qi G A out (fun (_ : Unit) => [])) args s 0 0 A) (F0 m 24 ls [.int s1, .int s0]) := by
  have hx := C0.1
  have hb := C0.2.1
  have hts := C0.2.2.2.1
  have hown := C0.2.2.2.2.1
  have hK := C0.2.2.2.2.2.2.2.2.1.1
  have hNW := C0.2.2.2.2.2.2.2.2.1.2.1
  have hSF := C0.2.2.2.2.2.2.2.2.1.2.2
  intro x0 x2 s0 s1 H locs ls hP hD hS hl hrun
  rw [f_X1_inSome_24] at hrun
  refine lv_ior hx hb dX1_inSome_24 ?_
  obtain ⟨n1, en, hrun⟩ := lt_inv hrun
  refine k_nmi en ?_
  clear en
  refine lv_istore_n (lv' := [(1, .int n1), (0, .int x0), (2, .int x2)]) hx hb dX1_inSome_25 rfl hl (by decide) rfl (fun ls hl => ?_)
  refine lv_iinc (v := x2 + 1) (lv' := [(2, .int (x2 + 1)), (1, .int n1), (0, .int x0)]) hx hb dX1_inSome_26 hl (k := 2) rfl rfl (by decide) rfl (fun ls hl => ?_)
  refine lv_goto (tgt := 4) hx hb dX1_inSome_29 (by decide) ?_
  exact hk4 x0 n1 (x2 + 1) _ _ _ hP hD hS (lv_sub hl [2, 1, 0] rfl) hrun
set_option maxHeartbeats 4000000 in
set_option maxRecDepth 100000 in
theorem t_X1_inSome_4 {l : Launch} {G : k_G} {p : Program} {e : Env} {s : State} {m : MethodId} {args : Array Value} {below : List Frame} {meth : Method} {c : Code} {A : Nat → Prop} {out : Int32} (C0 : k_C G p s m args meth c A cX1_inSome RX1 wsX1_inSome 3 (some .int) "inSome") : ∀ (n : Nat) (x0 : Int32) (x1 : Int32) (x2 : Int32) (H : Heap) (locs : List Loc) (ls : Array Slot), va_P G.1 vwCl [] H → va_D A [] → va_S A s.heap H locs → lv_has ls 3 [(0, .int x0), (1, .int x1), (2, .int x2)] → f_X1_inSome_4 n x0 x1 x2 = some out → W p l e rm_X1_inSome s m args below meth c H locs 0 0 (MQ below (k_Qi G A out (fun (_ : Unit) => [])) args s 0 0 A) (F0 m 4 ls []) := by
  have hx := C0.1
  have hb := C0.2.1
  have hts := C0.2.2.2.1
  have hown := C0.2.2.2.2.1
  have hK := C0.2.2.2.2.2.2.2.2.1.1
  have hNW := C0.2.2.2.2.2.2.2.2.1.2.1
  have hSF := C0.2.2.2.2.2.2.2.2.1.2.2
  intro n
  induction n with
  | zero =>
    intro x0 x1 x2 H locs ls hP hD hS hl hrun
    rw [f_X1_inSome_4] at hrun
    cases hrun
  | succ n ih =>
    intro x0 x1 x2 H locs ls hP hD hS hl hrun
    rw [f_X1_inSome_4] at hrun
    refine lv_iload_n hx hb dX1_inSome_4 rfl (lv_at hl 2 rfl) ?_
    refine lv_bipush (v := 16) hx hb dX1_inSome_5 (by decide) ?_
    refine lv_icmp_ge (tgt := 32) hx hb dX1_inSome_7 (by decide) (fun q1 => ?_) (fun q1 => ?_)
    · replace hrun := if_t q1 hrun
      refine lv_iload_n hx hb dX1_inSome_32 rfl (lv_at hl 1 rfl) ?_
      obtain rfl := Option.some.inj hrun
      exact k_reti C0 hP hD hS () rfl rfl dX1_inSome_33
    · replace hrun := if_f q1 hrun
      refine lv_iload_n hx hb dX1_inSome_10 rfl (lv_at hl 1 rfl) ?_
      refine lv_iload_n hx hb dX1_inSome_11 rfl (lv_at hl 0 rfl) ?_
      refine lv_iload_n hx hb dX1_inSome_12 rfl (lv_at hl 2 rfl) ?_
      obtain ⟨t2, et2, hrun⟩ := bd_inv hrun
      refine k_calli0 C0 (k_runS (rest := [.int x1]) C0 (c_X1_has et2) (va_cwS 2 hts gX1_inSome_X1_has rfl rfl rfl e_X1_has.2 ⟨Nat.le_of_ble_eq_true rfl, Nat.le_of_ble_eq_true rfl⟩) hP hD hS [] rfl (by decide) rfl hl.1 rfl (Nat.le_of_ble_eq_true rfl) dX1_inSome_13 ⟨Nat.le_of_ble_eq_true rfl, Nat.le_of_ble_eq_true rfl⟩) hP hS (fun H locs hP hS => ?_)
      refine lv_if_eq (tgt := 23) hx hb dX1_inSome_16 (by decide) (fun q3 => ?_) (fun q3 => ?_)
      · replace hrun := if_t q3 hrun
        refine lv_iconst (v := 0) hx hb dX1_inSome_23 (by decide) ?_
        exact t_X1_inSome_24 C0 (fun x0 x1 x2 => f_X1_inSome_4 n x0 x1 x2) ih x0 x2 x1 (0 : Int32) _ _ _ hP hD hS (lv_sub hl [0, 2] rfl) hrun
      · replace hrun := if_f q3 hrun
        refine lv_iload_n hx hb dX1_inSome_19 rfl (lv_at hl 2 rfl) ?_
        refine lv_goto (tgt := 24) hx hb dX1_inSome_20 (by decide) ?_
        exact t_X1_inSome_24 C0 (fun x0 x1 x2 => f_X1_inSome_4 n x0 x1 x2) ih x0 x2 x1 x2 _ _ _ hP hD hS (lv_sub hl [0, 2] rfl) hrun
set_option maxHeartbeats 4000000 in
set_option maxRecDepth 100000 in
theorem c_X1_inSome {l : Launch} {G : k_G} {sz : Nat} {p0 : Int32} {out : Int32} (hrun : f_X1_inSome p0 = some out) : k_Ci l G yX1_inSome wsX1_inSome rm_X1_inSome [.int p0] [] sz out (fun (_ : Unit) => []) 0 0 := by
  refine k_of (cc := cX1_inSome) (nL := 3) (ret := some .int) (own := RX1) (nm := "inSome") (by decide) rfl rfl rfl rfl ?_
  intro p e s m args below meth c ls hsz C0 hP hD hS hl
  have hl : lv_has ls 3 [(0, .int p0)] := hl
  generalize hH : s.heap = H at hP
  have hS : va_S (va_A [] sz) s.heap H [] := by rw [← hH]; exact hS
  clear hH
  generalize va_A [] sz = A at C0 hD hS ⊢
  have hx := C0.1
  have hb := C0.2.1
  have hts := C0.2.2.2.1
  have hown := C0.2.2.2.2.1
  have hK := C0.2.2.2.2.2.2.2.2.1.1
  have hNW := C0.2.2.2.2.2.2.2.2.1.2.1
  have hSF := C0.2.2.2.2.2.2.2.2.1.2.2
  rw [f_X1_inSome] at hrun
  refine lv_iconst (v := 0) hx hb dX1_inSome_0 (by decide) ?_
  refine lv_istore_n (lv' := [(1, .int (0 : Int32)), (0, .int p0)]) hx hb dX1_inSome_1 rfl hl (by decide) rfl (fun ls hl => ?_)
  refine lv_iconst (v := 0) hx hb dX1_inSome_2 (by decide) ?_
  refine lv_istore_n (lv' := [(2, .int (0 : Int32)), (1, .int (0 : Int32)), (0, .int p0)]) hx hb dX1_inSome_3 rfl hl (by decide) rfl (fun ls hl => ?_)
  exact t_X1_inSome_4 C0 kFU p0 (0 : Int32) (0 : Int32) _ _ _ hP hD hS (lv_sub hl [2, 1, 0] rfl) hrun
abbrev rm_X1_inAll : Room := { frames := 1, cells := 0, slots := 0, locals := 21 }
theorem e_X1_inAll : yX1_inAll.cls = RX1 ∧ yX1_inAll.cls ≠ "java/lang/invoke/MethodHandle" ∧ yX1_inAll.cls ≠ "java/lang/invoke/VarHandle" ∧ (parseMethodDescriptor yX1_inAll.desc).map (fun d => d.parameters.length) = some 1 := by decide +kernel
set_option maxHeartbeats 4000000 in
set_option maxRecDepth 100000 in
theorem t_X1_inAll_33 {l : Launch} {G : k_G} {p : Program} {e : Env} {s : State} {m : MethodId} {args : Array Value} {below : List Frame} {meth : Method} {c : Code} {A : Nat → Prop} {out : Int32} (C0 : k_C G p s m args meth c A cX1_inAll RX1 wsX1_inAll 3 (some .int) "inAll") (k13 : Int32 → Int32 → Int32 → Option (Int32)) (hk13 : ∀ (x0 : Int32) (x1 : Int32) (x2 : Int32) (H : Heap) (locs : List Loc) (ls : Array Slot), va_P G.1 vwCl [] H → va_D A [] → va_S A s.heap H locs → lv_has ls 3 [(0, .int x0), (1, .int x1), (2, .int x2)] → k13 x0 x1 x2 = some out → W p l e rm_X1_inAll s m args below meth c H locs 0 0 (MQ below (k_Qi G A out (fun (_ : Unit) => [])) args s 0 0 A) (F0 m 13 ls [])) : ∀ (x0 : Int32) (x2 : Int32) (s0 : Int32) (s1 : Int32) (H : Heap) (locs : List Loc) (ls : Array Slot), va_P G.1 vwCl [] H → va_D A [] → va_S A s.heap H locs → lv_has ls 3 [(0, .int x0), (2, .int x2)] → f_X1_inAll_33 k13 x0 x2 s0 s1 = some out → W p l e rm_X1_inAll s m args below meth c H locs 0 0 (MQ below (k_Qi G A out (fun (_ : Unit) => [])) args s 0 0 A) (F0 m 33 ls [.int s1, .int s0]) := by
  have hx := C0.1
  have hb := C0.2.1
  have hts := C0.2.2.2.1
  have hown := C0.2.2.2.2.1
  have hK := C0.2.2.2.2.2.2.2.2.1.1
  have hNW := C0.2.2.2.2.2.2.2.2.1.2.1
  have hSF := C0.2.2.2.2.2.2.2.2.1.2.2
  intro x0 x2 s0 s1 H locs ls hP hD hS hl hrun
  rw [f_X1_inAll_33] at hrun
  refine lv_iand hx hb dX1_inAll_33 ?_
  obtain ⟨n1, en, hrun⟩ := lt_inv hrun
  refine k_nmi en ?_
  clear en
  refine lv_istore_n (lv' := [(1, .int n1), (0, .int x0), (2, .int x2)]) hx hb dX1_inAll_34 rfl hl (by decide) rfl (fun ls hl => ?_)
  refine lv_iinc (v := x2 + 1) (lv' := [(2, .int (x2 + 1)), (1, .int n1), (0, .int x0)]) hx hb dX1_inAll_35 hl (k := 2) rfl rfl (by decide) rfl (fun ls hl => ?_)
  refine lv_goto (tgt := 13) hx hb dX1_inAll_38 (by decide) ?_
  exact hk13 x0 n1 (x2 + 1) _ _ _ hP hD hS (lv_sub hl [2, 1, 0] rfl) hrun
set_option maxHeartbeats 4000000 in
set_option maxRecDepth 100000 in
theorem t_X1_inAll_13 {l : Launch} {G : k_G} {p : Program} {e : Env} {s : State} {m : MethodId} {args : Array Value} {below : List Frame} {meth : Method} {c : Code} {A : Nat → Prop} {out : Int32} (C0 : k_C G p s m args meth c A cX1_inAll RX1 wsX1_inAll 3 (some .int) "inAll") : ∀ (n : Nat) (x0 : Int32) (x1 : Int32) (x2 : Int32) (H : Heap) (locs : List Loc) (ls : Array Slot), va_P G.1 vwCl [] H → va_D A [] → va_S A s.heap H locs → lv_has ls 3 [(0, .int x0), (1, .int x1), (2, .int x2)] → f_X1_inAll_13 n x0 x1 x2 = some out → W p l e rm_X1_inAll s m args below meth c H locs 0 0 (MQ below (k_Qi G A out (fun (_ : Unit) => [])) args s 0 0 A) (F0 m 13 ls []) := by
  have hx := C0.1
  have hb := C0.2.1
  have hts := C0.2.2.2.1
  have hown := C0.2.2.2.2.1
  have hK := C0.2.2.2.2.2.2.2.2.1.1
  have hNW := C0.2.2.2.2.2.2.2.2.1.2.1
  have hSF := C0.2.2.2.2.2.2.2.2.1.2.2
  intro n
  induction n with
  | zero =>
    intro x0 x1 x2 H locs ls hP hD hS hl hrun
    rw [f_X1_inAll_13] at hrun
    cases hrun
  | succ n ih =>
    intro x0 x1 x2 H locs ls hP hD hS hl hrun
    rw [f_X1_inAll_13] at hrun
    refine lv_iload_n hx hb dX1_inAll_13 rfl (lv_at hl 2 rfl) ?_
    refine lv_bipush (v := 16) hx hb dX1_inAll_14 (by decide) ?_
    refine lv_icmp_ge (tgt := 41) hx hb dX1_inAll_16 (by decide) (fun q1 => ?_) (fun q1 => ?_)
    · replace hrun := if_t q1 hrun
      refine lv_iload_n hx hb dX1_inAll_41 rfl (lv_at hl 1 rfl) ?_
      obtain rfl := Option.some.inj hrun
      exact k_reti C0 hP hD hS () rfl rfl dX1_inAll_42
    · replace hrun := if_f q1 hrun
      refine lv_iload_n hx hb dX1_inAll_19 rfl (lv_at hl 1 rfl) ?_
      refine lv_iload_n hx hb dX1_inAll_20 rfl (lv_at hl 0 rfl) ?_
      refine lv_iload_n hx hb dX1_inAll_21 rfl (lv_at hl 2 rfl) ?_
      obtain ⟨t2, et2, hrun⟩ := bd_inv hrun
      refine k_calli0 C0 (k_runS (rest := [.int x1]) C0 (c_X1_has et2) (va_cwS 2 hts gX1_inAll_X1_has rfl rfl rfl e_X1_has.2 ⟨Nat.le_of_ble_eq_true rfl, Nat.le_of_ble_eq_true rfl⟩) hP hD hS [] rfl (by decide) rfl hl.1 rfl (Nat.le_of_ble_eq_true rfl) dX1_inAll_22 ⟨Nat.le_of_ble_eq_true rfl, Nat.le_of_ble_eq_true rfl⟩) hP hS (fun H locs hP hS => ?_)
      refine lv_if_eq (tgt := 32) hx hb dX1_inAll_25 (by decide) (fun q3 => ?_) (fun q3 => ?_)
      · replace hrun := if_t q3 hrun
        refine lv_iload_n hx hb dX1_inAll_32 rfl (lv_at hl 1 rfl) ?_
        exact t_X1_inAll_33 C0 (fun x0 x1 x2 => f_X1_inAll_13 n x0 x1 x2) ih x0 x2 x1 x1 _ _ _ hP hD hS (lv_sub hl [0, 2] rfl) hrun
      · replace hrun := if_f q3 hrun
        refine lv_iload_n hx hb dX1_inAll_28 rfl (lv_at hl 2 rfl) ?_
        refine lv_goto (tgt := 33) hx hb dX1_inAll_29 (by decide) ?_
        exact t_X1_inAll_33 C0 (fun x0 x1 x2 => f_X1_inAll_13 n x0 x1 x2) ih x0 x2 x1 x2 _ _ _ hP hD hS (lv_sub hl [0, 2] rfl) hrun
set_option maxHeartbeats 4000000 in
set_option maxRecDepth 100000 in
theorem t_X1_inAll_10 {l : Launch} {G : k_G} {p : Program} {e : Env} {s : State} {m : MethodId} {args : Array Value} {below : List Frame} {meth : Method} {c : Code} {A : Nat → Prop} {out : Int32} (C0 : k_C G p s m args meth c A cX1_inAll RX1 wsX1_inAll 3 (some .int) "inAll") : ∀ (x0 : Int32) (s0 : Int32) (H : Heap) (locs : List Loc) (ls : Array Slot), va_P G.1 vwCl [] H → va_D A [] → va_S A s.heap H locs → lv_has ls 3 [(0, .int x0)] → f_X1_inAll_10 x0 s0 = some out → W p l e rm_X1_inAll s m args below meth c H locs 0 0 (MQ below (k_Qi G A out (fun (_ : Unit) => [])) args s 0 0 A) (F0 m 10 ls [.int s0]) := by
  have hx := C0.1
  have hb := C0.2.1
  have hts := C0.2.2.2.1
  have hown := C0.2.2.2.2.1
  have hK := C0.2.2.2.2.2.2.2.2.1.1
  have hNW := C0.2.2.2.2.2.2.2.2.1.2.1
  have hSF := C0.2.2.2.2.2.2.2.2.1.2.2
  intro x0 s0 H locs ls hP hD hS hl hrun
  rw [f_X1_inAll_10] at hrun
  refine lv_istore_n (lv' := [(1, .int s0), (0, .int x0)]) hx hb dX1_inAll_10 rfl hl (by decide) rfl (fun ls hl => ?_)
  refine lv_iconst (v := 0) hx hb dX1_inAll_11 (by decide) ?_
  refine lv_istore_n (lv' := [(2, .int (0 : Int32)), (1, .int s0), (0, .int x0)]) hx hb dX1_inAll_12 rfl hl (by decide) rfl (fun ls hl => ?_)
  exact t_X1_inAll_13 C0 kFU x0 s0 (0 : Int32) _ _ _ hP hD hS (lv_sub hl [2, 1, 0] rfl) hrun
set_option maxHeartbeats 4000000 in
set_option maxRecDepth 100000 in
theorem c_X1_inAll {l : Launch} {G : k_G} {sz : Nat} {p0 : Int32} {out : Int32} (hrun : f_X1_inAll p0 = some out) : k_Ci l G yX1_inAll wsX1_inAll rm_X1_inAll [.int p0] [] sz out (fun (_ : Unit) => []) 0 0 := by
  refine k_of (cc := cX1_inAll) (nL := 3) (ret := some .int) (own := RX1) (nm := "inAll") (by decide) rfl rfl rfl rfl ?_
  intro p e s m args below meth c ls hsz C0 hP hD hS hl
  have hl : lv_has ls 3 [(0, .int p0)] := hl
  generalize hH : s.heap = H at hP
  have hS : va_S (va_A [] sz) s.heap H [] := by rw [← hH]; exact hS
  clear hH
  generalize va_A [] sz = A at C0 hD hS ⊢
  have hx := C0.1
  have hb := C0.2.1
  have hts := C0.2.2.2.1
  have hown := C0.2.2.2.2.1
  have hK := C0.2.2.2.2.2.2.2.2.1.1
  have hNW := C0.2.2.2.2.2.2.2.2.1.2.1
  have hSF := C0.2.2.2.2.2.2.2.2.1.2.2
  rw [f_X1_inAll] at hrun
  refine lv_iload_n hx hb dX1_inAll_0 rfl (lv_at hl 0 rfl) ?_
  refine lv_if_ne (tgt := 8) hx hb dX1_inAll_1 (by decide) (fun q1 => ?_) (fun q1 => ?_)
  · replace hrun := if_f q1 hrun
    refine lv_bipush (v := 15) hx hb dX1_inAll_8 (by decide) ?_
    exact t_X1_inAll_10 C0 p0 (15 : Int32) _ _ _ hP hD hS hl hrun
  · replace hrun := if_t q1 hrun
    refine lv_iconst (v := 0) hx hb dX1_inAll_4 (by decide) ?_
    refine lv_goto (tgt := 10) hx hb dX1_inAll_5 (by decide) ?_
    exact t_X1_inAll_10 C0 p0 (0 : Int32) _ _ _ hP hD hS hl hrun
theorem u_X1_mostLeft_1 : (Cond.methodLink RX1 84 Lib.Math.max.name) ∈ wsX1_mostLeft := List.mem_of_getElem? (i := 1) (by decide +kernel)
theorem u_X1_mostLeft_2 : (Cond.static Lib.Math.max.name) ∈ wsX1_mostLeft := List.mem_of_getElem? (i := 2) (by decide +kernel)
theorem u_X1_mostLeft_3 : (Cond.initialized "java/lang/Math") ∈ wsX1_mostLeft := List.mem_of_getElem? (i := 3) (by decide +kernel)
theorem u_X1_mostLeft_4 : (Cond.code Lib.Math.max.name Lib.Math.max.code 2 (some .int)) ∈ wsX1_mostLeft := List.mem_of_getElem? (i := 4) (by decide +kernel)
abbrev rm_X1_mostLeft : Room := { frames := 1, cells := 0, slots := 0, locals := 21 }
theorem e_X1_mostLeft : yX1_mostLeft.cls = RX1 ∧ yX1_mostLeft.cls ≠ "java/lang/invoke/MethodHandle" ∧ yX1_mostLeft.cls ≠ "java/lang/invoke/VarHandle" ∧ (parseMethodDescriptor yX1_mostLeft.desc).map (fun d => d.parameters.length) = some 2 := by decide +kernel
set_option maxHeartbeats 4000000 in
set_option maxRecDepth 100000 in
theorem t_X1_mostLeft_32 {l : Launch} {G : k_G} {p : Program} {e : Env} {s : State} {m : MethodId} {args : Array Value} {below : List Frame} {meth : Method} {c : Code} {A : Nat → Prop} {out : Int32} (C0 : k_C G p s m args meth c A cX1_mostLeft RX1 wsX1_mostLeft 4 (some .int) "mostLeft") (k4 : Int32 → Int32 → Int32 → Int32 → Option (Int32)) (hk4 : ∀ (x0 : Int32) (x1 : Int32) (x2 : Int32) (x3 : Int32) (H : Heap) (locs : List Loc) (ls : Array Slot), va_P G.1 vwCl [] H → va_D A [] → va_S A s.heap H locs → lv_has ls 4 [(0, .int x0), (1, .int x1), (2, .int x2), (3, .int x3)] → k4 x0 x1 x2 x3 = some out → W p l e rm_X1_mostLeft s m args below meth c H locs 0 0 (MQ below (k_Qi G A out (fun (_ : Unit) => [])) args s 0 0 A) (F0 m 4 ls [])) : ∀ (x0 : Int32) (x1 : Int32) (x3 : Int32) (s0 : Int32) (s1 : Int32) (H : Heap) (locs : List Loc) (ls : Array Slot), va_P G.1 vwCl [] H → va_D A [] → va_S A s.heap H locs → lv_has ls 4 [(0, .int x0), (1, .int x1), (3, .int x3)] → f_X1_mostLeft_32 k4 x0 x1 x3 s0 s1 = some out → W p l e rm_X1_mostLeft s m args below meth c H locs 0 0 (MQ below (k_Qi G A out (fun (_ : Unit) => [])) args s 0 0 A) (F0 m 32 ls [.int s1, .int s0]) := by
  have hx := C0.1
  have hb := C0.2.1
  have hts := C0.2.2.2.1
  have hown := C0.2.2.2.2.1
  have hK := C0.2.2.2.2.2.2.2.2.1.1
  have hNW := C0.2.2.2.2.2.2.2.2.1.2.1
  have hSF := C0.2.2.2.2.2.2.2.2.1.2.2
  intro x0 x1 x3 s0 s1 H locs ls hP hD hS hl hrun
  rw [f_X1_mostLeft_32] at hrun
  refine lv_iadd hx hb dX1_mostLeft_32 ?_
  obtain ⟨n1, en, hrun⟩ := lt_inv hrun
  refine k_nmi en ?_
  clear en
  refine lv_istore_n (lv' := [(2, .int n1), (0, .int x0), (1, .int x1), (3, .int x3)]) hx hb dX1_mostLeft_33 rfl hl (by decide) rfl (fun ls hl => ?_)
  refine lv_iinc (v := x3 + 1) (lv' := [(3, .int (x3 + 1)), (2, .int n1), (0, .int x0), (1, .int x1)]) hx hb dX1_mostLeft_34 hl (k := 3) rfl rfl (by decide) rfl (fun ls hl => ?_)
  refine lv_goto (tgt := 4) hx hb dX1_mostLeft_37 (by decide) ?_
  exact hk4 x0 x1 n1 (x3 + 1) _ _ _ hP hD hS (lv_sub hl [2, 3, 1, 0] rfl) hrun
set_option maxHeartbeats 4000000 in
set_option maxRecDepth 100000 in
theorem t_X1_mostLeft_31 {l : Launch} {G : k_G} {p : Program} {e : Env} {s : State} {m : MethodId} {args : Array Value} {below : List Frame} {meth : Method} {c : Code} {A : Nat → Prop} {out : Int32} (C0 : k_C G p s m args meth c A cX1_mostLeft RX1 wsX1_mostLeft 4 (some .int) "mostLeft") (k4 : Int32 → Int32 → Int32 → Int32 → Option (Int32)) (hk4 : ∀ (x0 : Int32) (x1 : Int32) (x2 : Int32) (x3 : Int32) (H : Heap) (locs : List Loc) (ls : Array Slot), va_P G.1 vwCl [] H → va_D A [] → va_S A s.heap H locs → lv_has ls 4 [(0, .int x0), (1, .int x1), (2, .int x2), (3, .int x3)] → k4 x0 x1 x2 x3 = some out → W p l e rm_X1_mostLeft s m args below meth c H locs 0 0 (MQ below (k_Qi G A out (fun (_ : Unit) => [])) args s 0 0 A) (F0 m 4 ls [])) : ∀ (x0 : Int32) (x1 : Int32) (x3 : Int32) (s0 : Int32) (H : Heap) (locs : List Loc) (ls : Array Slot), va_P G.1 vwCl [] H → va_D A [] → va_S A s.heap H locs → lv_has ls 4 [(0, .int x0), (1, .int x1), (3, .int x3)] → f_X1_mostLeft_31 k4 x0 x1 x3 s0 = some out → W p l e rm_X1_mostLeft s m args below meth c H locs 0 0 (MQ below (k_Qi G A out (fun (_ : Unit) => [])) args s 0 0 A) (F0 m 31 ls [.int s0]) := by
  have hx := C0.1
  have hb := C0.2.1
  have hts := C0.2.2.2.1
  have hown := C0.2.2.2.2.1
  have hK := C0.2.2.2.2.2.2.2.2.1.1
  have hNW := C0.2.2.2.2.2.2.2.2.1.2.1
  have hSF := C0.2.2.2.2.2.2.2.2.1.2.2
  intro x0 x1 x3 s0 H locs ls hP hD hS hl hrun
  rw [f_X1_mostLeft_31] at hrun
  refine lv_iconst (v := 0) hx hb dX1_mostLeft_31 (by decide) ?_
  exact t_X1_mostLeft_32 C0 k4 hk4 x0 x1 x3 s0 (0 : Int32) _ _ _ hP hD hS hl hrun
set_option maxHeartbeats 4000000 in
set_option maxRecDepth 100000 in
theorem t_X1_mostLeft_4 {l : Launch} {G : k_G} {p : Program} {e : Env} {s : State} {m : MethodId} {args : Array Value} {below : List Frame} {meth : Method} {c : Code} {A : Nat → Prop} {out : Int32} (C0 : k_C G p s m args meth c A cX1_mostLeft RX1 wsX1_mostLeft 4 (some .int) "mostLeft") : ∀ (n : Nat) (x0 : Int32) (x1 : Int32) (x2 : Int32) (x3 : Int32) (H : Heap) (locs : List Loc) (ls : Array Slot), va_P G.1 vwCl [] H → va_D A [] → va_S A s.heap H locs → lv_has ls 4 [(0, .int x0), (1, .int x1), (2, .int x2), (3, .int x3)] → f_X1_mostLeft_4 n x0 x1 x2 x3 = some out → W p l e rm_X1_mostLeft s m args below meth c H locs 0 0 (MQ below (k_Qi G A out (fun (_ : Unit) => [])) args s 0 0 A) (F0 m 4 ls []) := by
  have hx := C0.1
  have hb := C0.2.1
  have hts := C0.2.2.2.1
  have hown := C0.2.2.2.2.1
  have hK := C0.2.2.2.2.2.2.2.2.1.1
  have hNW := C0.2.2.2.2.2.2.2.2.1.2.1
  have hSF := C0.2.2.2.2.2.2.2.2.1.2.2
  intro n
  induction n with
  | zero =>
    intro x0 x1 x2 x3 H locs ls hP hD hS hl hrun
    rw [f_X1_mostLeft_4] at hrun
    cases hrun
  | succ n ih =>
    intro x0 x1 x2 x3 H locs ls hP hD hS hl hrun
    rw [f_X1_mostLeft_4] at hrun
    refine lv_iload_n hx hb dX1_mostLeft_4 rfl (lv_at hl 3 rfl) ?_
    refine lv_bipush (v := 16) hx hb dX1_mostLeft_5 (by decide) ?_
    refine lv_icmp_ge (tgt := 40) hx hb dX1_mostLeft_7 (by decide) (fun q1 => ?_) (fun q1 => ?_)
    · replace hrun := if_t q1 hrun
      refine lv_iload_n hx hb dX1_mostLeft_40 rfl (lv_at hl 2 rfl) ?_
      refine lv_iload_n hx hb dX1_mostLeft_41 rfl (lv_at hl 0 rfl) ?_
      obtain ⟨t2, et2, hrun⟩ := bd_inv hrun
      refine k_calli0 C0 (k_runS (rest := [.int x2]) C0 (c_J6_bitCount_0f7a4 et2) (va_cwS 1 hts gX1_mostLeft_J6_bitCount_0f7a4 rfl rfl rfl e_J6_bitCount_0f7a4.2 ⟨Nat.le_of_ble_eq_true rfl, Nat.le_of_ble_eq_true rfl⟩) hP hD hS [] rfl (by decide) rfl hl.1 rfl (Nat.le_of_ble_eq_true rfl) dX1_mostLeft_42 ⟨Nat.le_of_ble_eq_true rfl, Nat.le_of_ble_eq_true rfl⟩) hP hS (fun H locs hP hS => ?_)
      refine lv_iload_n hx hb dX1_mostLeft_45 rfl (lv_at hl 2 rfl) ?_
      refine lv_isub hx hb dX1_mostLeft_46 ?_
      refine va_mmax hx hb (C0.2.2.2.2.2.2.1.trans hl.1.symm) hown (hts _ u_X1_mostLeft_1) (hts _ u_X1_mostLeft_2) (hts _ u_X1_mostLeft_3) (hts _ u_X1_mostLeft_4) (Nat.le_of_ble_eq_true rfl) (Nat.le_of_ble_eq_true rfl) (Nat.le_of_ble_eq_true rfl) (Nat.le_of_ble_eq_true rfl) dX1_mostLeft_47 ?_
      obtain rfl := Option.some.inj hrun
      exact k_reti C0 hP hD hS () rfl rfl dX1_mostLeft_50
    · replace hrun := if_f q1 hrun
      refine lv_iload_n hx hb dX1_mostLeft_10 rfl (lv_at hl 2 rfl) ?_
      refine lv_iload_n hx hb dX1_mostLeft_11 rfl (lv_at hl 0 rfl) ?_
      refine lv_iload_n hx hb dX1_mostLeft_12 rfl (lv_at hl 3 rfl) ?_
      obtain ⟨t3, et3, hrun⟩ := bd_inv hrun
      refine k_calli0 C0 (k_runS (rest := [.int x2]) C0 (c_X1_has et3) (va_cwS 2 hts gX1_mostLeft_X1_has rfl rfl rfl e_X1_has.2 ⟨Nat.le_of_ble_eq_true rfl, Nat.le_of_ble_eq_true rfl⟩) hP hD hS [] rfl (by decide) rfl hl.1 rfl (Nat.le_of_ble_eq_true rfl) dX1_mostLeft_13 ⟨Nat.le_of_ble_eq_true rfl, Nat.le_of_ble_eq_true rfl⟩) hP hS (fun H locs hP hS => ?_)
      refine lv_if_eq (tgt := 31) hx hb dX1_mostLeft_16 (by decide) (fun q4 => ?_) (fun q4 => ?_)
      · replace hrun := if_t q4 hrun
        exact t_X1_mostLeft_31 C0 (fun x0 x1 x2 x3 => f_X1_mostLeft_4 n x0 x1 x2 x3) ih x0 x1 x3 x2 _ _ _ hP hD hS (lv_sub hl [0, 1, 3] rfl) hrun
      · replace hrun := if_f q4 hrun
        refine lv_iload_n hx hb dX1_mostLeft_19 rfl (lv_at hl 3 rfl) ?_
        refine lv_iload_n hx hb dX1_mostLeft_20 rfl (lv_at hl 1 rfl) ?_
        obtain ⟨t5, et5, hrun⟩ := bd_inv hrun
        refine k_calli0 C0 (k_runS (rest := [.int x2]) C0 (c_X1_has et5) (va_cwS 2 hts gX1_mostLeft_X1_has rfl rfl rfl e_X1_has.2 ⟨Nat.le_of_ble_eq_true rfl, Nat.le_of_ble_eq_true rfl⟩) hP hD hS [] rfl (by decide) rfl hl.1 rfl (Nat.le_of_ble_eq_true rfl) dX1_mostLeft_21 ⟨Nat.le_of_ble_eq_true rfl, Nat.le_of_ble_eq_true rfl⟩) hP hS (fun H locs hP hS => ?_)
        refine lv_if_eq (tgt := 31) hx hb dX1_mostLeft_24 (by decide) (fun q6 => ?_) (fun q6 => ?_)
        · replace hrun := if_t q6 hrun
          exact t_X1_mostLeft_31 C0 (fun x0 x1 x2 x3 => f_X1_mostLeft_4 n x0 x1 x2 x3) ih x0 x1 x3 x2 _ _ _ hP hD hS (lv_sub hl [0, 1, 3] rfl) hrun
        · replace hrun := if_f q6 hrun
          refine lv_iconst (v := 1) hx hb dX1_mostLeft_27 (by decide) ?_
          refine lv_goto (tgt := 32) hx hb dX1_mostLeft_28 (by decide) ?_
          exact t_X1_mostLeft_32 C0 (fun x0 x1 x2 x3 => f_X1_mostLeft_4 n x0 x1 x2 x3) ih x0 x1 x3 x2 (1 : Int32) _ _ _ hP hD hS (lv_sub hl [0, 1, 3] rfl) hrun
set_option maxHeartbeats 4000000 in
set_option maxRecDepth 100000 in
theorem c_X1_mostLeft {l : Launch} {G : k_G} {sz : Nat} {p0 : Int32} {p1 : Int32} {out : Int32} (hrun : f_X1_mostLeft p0 p1 = some out) : k_Ci l G yX1_mostLeft wsX1_mostLeft rm_X1_mostLeft [.int p0, .int p1] [] sz out (fun (_ : Unit) => []) 0 0 := by
  refine k_of (cc := cX1_mostLeft) (nL := 4) (ret := some .int) (own := RX1) (nm := "mostLeft") (by decide) rfl rfl rfl rfl ?_
  intro p e s m args below meth c ls hsz C0 hP hD hS hl
  have hl : lv_has ls 4 [(0, .int p0), (1, .int p1)] := hl
  generalize hH : s.heap = H at hP
  have hS : va_S (va_A [] sz) s.heap H [] := by rw [← hH]; exact hS
  clear hH
  generalize va_A [] sz = A at C0 hD hS ⊢
  have hx := C0.1
  have hb := C0.2.1
  have hts := C0.2.2.2.1
  have hown := C0.2.2.2.2.1
  have hK := C0.2.2.2.2.2.2.2.2.1.1
  have hNW := C0.2.2.2.2.2.2.2.2.1.2.1
  have hSF := C0.2.2.2.2.2.2.2.2.1.2.2
  rw [f_X1_mostLeft] at hrun
  refine lv_iconst (v := 0) hx hb dX1_mostLeft_0 (by decide) ?_
  refine lv_istore_n (lv' := [(2, .int (0 : Int32)), (0, .int p0), (1, .int p1)]) hx hb dX1_mostLeft_1 rfl hl (by decide) rfl (fun ls hl => ?_)
  refine lv_iconst (v := 0) hx hb dX1_mostLeft_2 (by decide) ?_
  refine lv_istore_n (lv' := [(3, .int (0 : Int32)), (2, .int (0 : Int32)), (0, .int p0), (1, .int p1)]) hx hb dX1_mostLeft_3 rfl hl (by decide) rfl (fun ls hl => ?_)
  exact t_X1_mostLeft_4 C0 kFU p0 p1 (0 : Int32) (0 : Int32) _ _ _ hP hD hS (lv_sub hl [2, 3, 1, 0] rfl) hrun
abbrev rm_X1_bestQuestion : Room := { frames := 2, cells := 0, slots := 0, locals := 44 }
theorem e_X1_bestQuestion : yX1_bestQuestion.cls = RX1 ∧ yX1_bestQuestion.cls ≠ "java/lang/invoke/MethodHandle" ∧ yX1_bestQuestion.cls ≠ "java/lang/invoke/VarHandle" ∧ (parseMethodDescriptor yX1_bestQuestion.desc).map (fun d => d.parameters.length) = some 2 := by decide +kernel
set_option maxHeartbeats 4000000 in
set_option maxRecDepth 100000 in
theorem t_X1_bestQuestion_35 {l : Launch} {G : k_G} {p : Program} {e : Env} {s : State} {m : MethodId} {args : Array Value} {below : List Frame} {meth : Method} {c : Code} {A : Nat → Prop} {out : Int32} (C0 : k_C G p s m args meth c A cX1_bestQuestion RX1 wsX1_bestQuestion 4 (some .int) "bestQuestion") (k15 : Int32 → Int32 → Int32 → Int32 → Option (Int32)) (hk15 : ∀ (x0 : Int32) (x1 : Int32) (x2 : Int32) (x3 : Int32) (H : Heap) (locs : List Loc) (ls : Array Slot), va_P G.1 vwCl [] H → va_D A [] → va_S A s.heap H locs → lv_has ls 4 [(0, .int x0), (1, .int x1), (2, .int x2), (3, .int x3)] → k15 x0 x1 x2 x3 = some out → W p l e rm_X1_bestQuestion s m args below meth c H locs 0 0 (MQ below (k_Qi G A out (fun (_ : Unit) => [])) args s 0 0 A) (F0 m 15 ls [])) : ∀ (x0 : Int32) (x1 : Int32) (x2 : Int32) (x3 : Int32) (H : Heap) (locs : List Loc) (ls : Array Slot), va_P G.1 vwCl [] H → va_D A [] → va_S A s.heap H locs → lv_has ls 4 [(0, .int x0), (1, .int x1), (2, .int x2), (3, .int x3)] → f_X1_bestQuestion_35 k15 x0 x1 x2 x3 = some out → W p l e rm_X1_bestQuestion s m args below meth c H locs 0 0 (MQ below (k_Qi G A out (fun (_ : Unit) => [])) args s 0 0 A) (F0 m 35 ls []) := by
  have hx := C0.1
  have hb := C0.2.1
  have hts := C0.2.2.2.1
  have hown := C0.2.2.2.2.1
  have hK := C0.2.2.2.2.2.2.2.2.1.1
  have hNW := C0.2.2.2.2.2.2.2.2.1.2.1
  have hSF := C0.2.2.2.2.2.2.2.2.1.2.2
  intro x0 x1 x2 x3 H locs ls hP hD hS hl hrun
  rw [f_X1_bestQuestion_35] at hrun
  refine lv_iinc (v := x3 + 1) (lv' := [(3, .int (x3 + 1)), (0, .int x0), (1, .int x1), (2, .int x2)]) hx hb dX1_bestQuestion_35 hl (k := 3) rfl rfl (by decide) rfl (fun ls hl => ?_)
  refine lv_goto (tgt := 15) hx hb dX1_bestQuestion_38 (by decide) ?_
  exact hk15 x0 x1 x2 (x3 + 1) _ _ _ hP hD hS (lv_sub hl [1, 2, 3, 0] rfl) hrun
set_option maxHeartbeats 4000000 in
set_option maxRecDepth 100000 in
theorem t_X1_bestQuestion_15 {l : Launch} {G : k_G} {p : Program} {e : Env} {s : State} {m : MethodId} {args : Array Value} {below : List Frame} {meth : Method} {c : Code} {A : Nat → Prop} {out : Int32} (C0 : k_C G p s m args meth c A cX1_bestQuestion RX1 wsX1_bestQuestion 4 (some .int) "bestQuestion") : ∀ (n : Nat) (x0 : Int32) (x1 : Int32) (x2 : Int32) (x3 : Int32) (H : Heap) (locs : List Loc) (ls : Array Slot), va_P G.1 vwCl [] H → va_D A [] → va_S A s.heap H locs → lv_has ls 4 [(0, .int x0), (1, .int x1), (2, .int x2), (3, .int x3)] → f_X1_bestQuestion_15 n x0 x1 x2 x3 = some out → W p l e rm_X1_bestQuestion s m args below meth c H locs 0 0 (MQ below (k_Qi G A out (fun (_ : Unit) => [])) args s 0 0 A) (F0 m 15 ls []) := by
  have hx := C0.1
  have hb := C0.2.1
  have hts := C0.2.2.2.1
  have hown := C0.2.2.2.2.1
  have hK := C0.2.2.2.2.2.2.2.2.1.1
  have hNW := C0.2.2.2.2.2.2.2.2.1.2.1
  have hSF := C0.2.2.2.2.2.2.2.2.1.2.2
  intro n
  induction n with
  | zero =>
    intro x0 x1 x2 x3 H locs ls hP hD hS hl hrun
    rw [f_X1_bestQuestion_15] at hrun
    cases hrun
  | succ n ih =>
    intro x0 x1 x2 x3 H locs ls hP hD hS hl hrun
    rw [f_X1_bestQuestion_15] at hrun
    refine lv_iload_n hx hb dX1_bestQuestion_15 rfl (lv_at hl 3 rfl) ?_
    refine lv_iload_n hx hb dX1_bestQuestion_16 rfl (lv_at hl 1 rfl) ?_
    refine lv_icmp_ge (tgt := 41) hx hb dX1_bestQuestion_17 (by decide) (fun q1 => ?_) (fun q1 => ?_)
    · replace hrun := if_t q1 hrun
      refine lv_iload_n hx hb dX1_bestQuestion_41 rfl (lv_at hl 2 rfl) ?_
      obtain rfl := Option.some.inj hrun
      exact k_reti C0 hP hD hS () rfl rfl dX1_bestQuestion_42
    · replace hrun := if_f q1 hrun
      refine lv_iload_n hx hb dX1_bestQuestion_20 rfl (lv_at hl 0 rfl) ?_
      refine lv_iload_n hx hb dX1_bestQuestion_21 rfl (lv_at hl 3 rfl) ?_
      obtain ⟨t2, et2, hrun⟩ := bd_inv hrun
      refine k_calli0 C0 (k_runS (rest := []) C0 (c_X1_mostLeft et2) (va_cwS 2 hts gX1_bestQuestion_X1_mostLeft rfl rfl rfl e_X1_mostLeft.2 ⟨Nat.le_of_ble_eq_true rfl, Nat.le_of_ble_eq_true rfl⟩) hP hD hS [] rfl (by decide) rfl hl.1 rfl (Nat.le_of_ble_eq_true rfl) dX1_bestQuestion_22 ⟨Nat.le_of_ble_eq_true rfl, Nat.le_of_ble_eq_true rfl⟩) hP hS (fun H locs hP hS => ?_)
      refine lv_iload_n hx hb dX1_bestQuestion_25 rfl (lv_at hl 0 rfl) ?_
      refine lv_iload_n hx hb dX1_bestQuestion_26 rfl (lv_at hl 2 rfl) ?_
      obtain ⟨t3, et3, hrun⟩ := bd_inv hrun
      refine k_calli0 C0 (k_runS (rest := [.int t2]) C0 (c_X1_mostLeft et3) (va_cwS 2 hts gX1_bestQuestion_X1_mostLeft rfl rfl rfl e_X1_mostLeft.2 ⟨Nat.le_of_ble_eq_true rfl, Nat.le_of_ble_eq_true rfl⟩) hP hD hS [] rfl (by decide) rfl hl.1 rfl (Nat.le_of_ble_eq_true rfl) dX1_bestQuestion_27 ⟨Nat.le_of_ble_eq_true rfl, Nat.le_of_ble_eq_true rfl⟩) hP hS (fun H locs hP hS => ?_)
      refine lv_icmp_ge (tgt := 35) hx hb dX1_bestQuestion_30 (by decide) (fun q4 => ?_) (fun q4 => ?_)
      · replace hrun := if_t q4 hrun
        exact t_X1_bestQuestion_35 C0 (fun x0 x1 x2 x3 => f_X1_bestQuestion_15 n x0 x1 x2 x3) ih x0 x1 x2 x3 _ _ _ hP hD hS hl hrun
      · replace hrun := if_f q4 hrun
        refine lv_iload_n hx hb dX1_bestQuestion_33 rfl (lv_at hl 3 rfl) ?_
        refine lv_istore_n (lv' := [(2, .int x3), (0, .int x0), (1, .int x1), (3, .int x3)]) hx hb dX1_bestQuestion_34 rfl hl (by decide) rfl (fun ls hl => ?_)
        exact t_X1_bestQuestion_35 C0 (fun x0 x1 x2 x3 => f_X1_bestQuestion_15 n x0 x1 x2 x3) ih x0 x1 x3 x3 _ _ _ hP hD hS (lv_sub hl [1, 2, 0, 3] rfl) hrun
set_option maxHeartbeats 4000000 in
set_option maxRecDepth 100000 in
theorem c_X1_bestQuestion {l : Launch} {G : k_G} {sz : Nat} {p0 : Int32} {p1 : Int32} {out : Int32} (hrun : f_X1_bestQuestion p0 p1 = some out) : k_Ci l G yX1_bestQuestion wsX1_bestQuestion rm_X1_bestQuestion [.int p0, .int p1] [] sz out (fun (_ : Unit) => []) 0 0 := by
  refine k_of (cc := cX1_bestQuestion) (nL := 4) (ret := some .int) (own := RX1) (nm := "bestQuestion") (by decide) rfl rfl rfl rfl ?_
  intro p e s m args below meth c ls hsz C0 hP hD hS hl
  have hl : lv_has ls 4 [(0, .int p0), (1, .int p1)] := hl
  generalize hH : s.heap = H at hP
  have hS : va_S (va_A [] sz) s.heap H [] := by rw [← hH]; exact hS
  clear hH
  generalize va_A [] sz = A at C0 hD hS ⊢
  have hx := C0.1
  have hb := C0.2.1
  have hts := C0.2.2.2.1
  have hown := C0.2.2.2.2.1
  have hK := C0.2.2.2.2.2.2.2.2.1.1
  have hNW := C0.2.2.2.2.2.2.2.2.1.2.1
  have hSF := C0.2.2.2.2.2.2.2.2.1.2.2
  rw [f_X1_bestQuestion] at hrun
  refine lv_iload_n hx hb dX1_bestQuestion_0 rfl (lv_at hl 0 rfl) ?_
  refine lv_if_eq (tgt := 8) hx hb dX1_bestQuestion_1 (by decide) (fun q1 => ?_) (fun q1 => ?_)
  · replace hrun := if_t q1 hrun
    refine lv_bipush (v := -2) hx hb dX1_bestQuestion_8 (by decide) ?_
    obtain rfl := Option.some.inj hrun
    exact k_reti C0 hP hD hS () rfl rfl dX1_bestQuestion_10
  · replace hrun := if_f q1 hrun
    refine lv_iload_n hx hb dX1_bestQuestion_4 rfl (lv_at hl 1 rfl) ?_
    refine lv_if_ne (tgt := 11) hx hb dX1_bestQuestion_5 (by decide) (fun q2 => ?_) (fun q2 => ?_)
    · replace hrun := if_f q2 hrun
      refine lv_iconst (v := 0) hx hb dX1_bestQuestion_11 (by decide) ?_
      refine lv_istore_n (lv' := [(2, .int (0 : Int32)), (0, .int p0), (1, .int p1)]) hx hb dX1_bestQuestion_12 rfl hl (by decide) rfl (fun ls hl => ?_)
      refine lv_iconst (v := 1) hx hb dX1_bestQuestion_13 (by decide) ?_
      refine lv_istore_n (lv' := [(3, .int (1 : Int32)), (2, .int (0 : Int32)), (0, .int p0), (1, .int p1)]) hx hb dX1_bestQuestion_14 rfl hl (by decide) rfl (fun ls hl => ?_)
      exact t_X1_bestQuestion_15 C0 kFU p0 p1 (0 : Int32) (1 : Int32) _ _ _ hP hD hS (lv_sub hl [2, 3, 1, 0] rfl) hrun
    · replace hrun := if_t q2 hrun
      refine lv_bipush (v := -2) hx hb dX1_bestQuestion_8 (by decide) ?_
      obtain rfl := Option.some.inj hrun
      exact k_reti C0 hP hD hS () rfl rfl dX1_bestQuestion_10
