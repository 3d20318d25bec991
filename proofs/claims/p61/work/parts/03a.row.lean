def f_X8_all (p0 : Int32) : Option (Int32) :=
  some (((1 : Int32) <<< (p0 &&& 31)) - (1 : Int32))
def f_X8_bit (p0 : Int32) (p1 : Int32) : Option (Int32) :=
  some ((1 : Int32) <<< (((p0 - (1 : Int32)) - p1) &&& 31))
def f_X8_startsUp (p0 : Int32) (p1 : Int32) : Option (Int32) :=
  if ((p0 >>> ((p1 - (1 : Int32)) &&& 31)) &&& (1 : Int32)) = 0 then
    some ((0 : Int32))
  else
    some ((1 : Int32))
def f_X8_turned (p0 : Int32) (p1 : Int32) : Option (Int32) :=
  lt (p0 &&& (((1 : Int32) <<< ((p1 - (1 : Int32)) &&& 31)) - (1 : Int32))) fun n1 =>
  some ((n1 <<< ((1 : Int32) &&& 31)) ||| (p0 >>> ((p1 - (1 : Int32)) &&& 31)))
def f_X8_turnedBy_5 : Nat → Int32 → Int32 → Int32 → Int32 → Option (Int32)
  | 0, _, _, _, _ => none
  | n + 1, x1, x2, x3, x4 =>
    if x2 ≤ x4 then
      some (x3)
    else
      (bd (f_X8_turned x3 x1) fun t2 =>
       f_X8_turnedBy_5 n x1 x2 t2 (x4 + 1))
def f_X8_turnedBy (p0 : Int32) (p1 : Int32) (p2 : Int32) : Option (Int32) :=
  f_X8_turnedBy_5 kFU p1 p2 p0 (0 : Int32)
def f_X8_twinned (p0 : Int32) (p1 : Int32) : Option (Int32) :=
  bd (f_X8_all p1) fun t1 =>
  some (p0 ^^^ t1)
def f_X8_fromBelow_4 : Nat → Int32 → Int32 → Int32 → Int32 → Option (Int32)
  | 0, _, _, _, _ => none
  | n + 1, x0, x1, x2, x3 =>
    if x1 ≤ x3 then
      (bd (f_X8_twinned x2 x1) fun t2 =>
       some (t2))
    else
      (lt ((x2 * (2 : Int32)) + ((x0 >>> (x3 &&& 31)) &&& (1 : Int32))) fun n3 =>
       f_X8_fromBelow_4 n x0 x1 n3 (x3 + 1))
def f_X8_fromBelow (p0 : Int32) (p1 : Int32) : Option (Int32) :=
  f_X8_fromBelow_4 kFU p0 p1 (0 : Int32) (0 : Int32)
def f_X8_otherFrom (p0 : Int32) (p1 : Int32) (p2 : Int32) : Option (Int32) :=
  bd (f_X8_all (p1 - p2)) fun t1 =>
  some (p0 ^^^ t1)
def f_J6_bitCount_0f7a4 (p0 : Int32) : Option (Int32) :=
  lt (p0 - (((p0.toUInt32 >>> ((1 : Int32).toUInt32 &&& Int32.toUInt32 31)).toInt32) &&& (1431655765 : Int32))) fun n1 =>
  lt ((n1 &&& (858993459 : Int32)) + (((n1.toUInt32 >>> ((2 : Int32).toUInt32 &&& Int32.toUInt32 31)).toInt32) &&& (858993459 : Int32))) fun n2 =>
  lt ((n2 + ((n2.toUInt32 >>> ((4 : Int32).toUInt32 &&& Int32.toUInt32 31)).toInt32)) &&& (252645135 : Int32)) fun n3 =>
  lt (n3 + ((n3.toUInt32 >>> ((8 : Int32).toUInt32 &&& Int32.toUInt32 31)).toInt32)) fun n4 =>
  lt (n4 + ((n4.toUInt32 >>> ((16 : Int32).toUInt32 &&& Int32.toUInt32 31)).toInt32)) fun n5 =>
  some (n5 &&& (63 : Int32))
def f_X8_total (p0 : Int32) (p1 : Int32) : Option (Int32) :=
  bd (f_J6_bitCount_0f7a4 p0) fun t1 =>
  some (((2 : Int32) * t1) - p1)
def f_X8_closes (p0 : Int32) (p1 : Int32) : Option (Int32) :=
  bd (f_X8_total p0 p1) fun t1 =>
  if (t1 - t1 / (3 : Int32) * (3 : Int32)) = 0 then
    some ((1 : Int32))
  else
    some ((0 : Int32))
def f_X8_repeatsAfter (p0 : Int32) (p1 : Int32) : Option (Int32) :=
  bd (f_X8_total p0 p1) fun t1 =>
  if (t1 - t1 / (3 : Int32) * (3 : Int32)) = 0 then
    some (p1)
  else
    some ((3 : Int32) * p1)
def f_X8_period_8 : Nat → Int32 → Int32 → Int32 → Int32 → Option (Int32)
  | 0, _, _, _, _ => none
  | n + 1, x0, x1, x2, x3 =>
    if x1 ≤ x3 then
      some (x1)
    else
      (if x2 = x0 then
         some (x3)
       else
         (bd (f_X8_turned x2 x1) fun t3 =>
          f_X8_period_8 n x0 x1 t3 (x3 + 1)))
def f_X8_period (p0 : Int32) (p1 : Int32) : Option (Int32) :=
  bd (f_X8_turned p0 p1) fun t1 =>
  f_X8_period_8 kFU p0 p1 t1 (1 : Int32)
def f_X8_hexes (p0 : Int32) (p1 : Int32) : Option (Int32) :=
  bd (f_X8_turned p0 p1) fun t1 =>
  bd (f_J6_bitCount_0f7a4 (p0 ^^^ t1)) fun t2 =>
  some (t2)
def f_X8_runs (p0 : Int32) (p1 : Int32) : Option (Int32) :=
  bd (f_X8_hexes p0 p1) fun t1 =>
  some (if (1 : Int32) < t1 then t1 else (1 : Int32))
def f_X8_beginsRun_16 (s0 : Int32) (s1 : Int32) : Option (Int32) :=
  if s0 = s1 then
    some ((0 : Int32))
  else
    some ((1 : Int32))
def f_X8_beginsRun (p0 : Int32) (p1 : Int32) : Option (Int32) :=
  bd (f_X8_startsUp p0 p1) fun t1 =>
  if (p0 &&& (1 : Int32)) = 0 then
    f_X8_beginsRun_16 t1 (0 : Int32)
  else
    f_X8_beginsRun_16 t1 (1 : Int32)
def f_X8_stepsLikeFirst_31 (k8 : Int32 → Int32 → Int32 → Int32 → Option (Int32)) (x0 : Int32) (x1 : Int32) (x2 : Int32) (x3 : Int32) (s0 : Int32) (s1 : Int32) : Option (Int32) :=
  if s0 = s1 then
    (k8 x0 x1 x2 (x3 + 1))
  else
    some (x3)
def f_X8_stepsLikeFirst_8 : Nat → Int32 → Int32 → Int32 → Int32 → Option (Int32)
  | 0, _, _, _, _ => none
  | n + 1, x0, x1, x2, x3 =>
    if x1 ≤ x3 then
      some (x3)
    else
      (if x2 = 0 then
         f_X8_stepsLikeFirst_31 (fun x0 x1 x2 x3 => f_X8_stepsLikeFirst_8 n x0 x1 x2 x3) x0 x1 x2 x3 ((x0 >>> (((x1 - (1 : Int32)) - x3) &&& 31)) &&& (1 : Int32)) (0 : Int32)
       else
         f_X8_stepsLikeFirst_31 (fun x0 x1 x2 x3 => f_X8_stepsLikeFirst_8 n x0 x1 x2 x3) x0 x1 x2 x3 ((x0 >>> (((x1 - (1 : Int32)) - x3) &&& 31)) &&& (1 : Int32)) (1 : Int32))
def f_X8_stepsLikeFirst (p0 : Int32) (p1 : Int32) : Option (Int32) :=
  bd (f_X8_startsUp p0 p1) fun t1 =>
  f_X8_stepsLikeFirst_8 kFU p0 p1 t1 (1 : Int32)
def f_X8_runLength_48 (k18 : Int32 → Int32 → Int32 → Int32 → Int32 → Option (Int32)) (x1 : Int32) (x2 : Int32) (x3 : Int32) (x4 : Int32) (x5 : Int32) : Option (Int32) :=
  bd (f_X8_turned x4 x1) fun t1 =>
  k18 x1 x2 x3 t1 (x5 + 1)
def f_X8_runLength_18 : Nat → Int32 → Int32 → Int32 → Int32 → Int32 → Option (Int32)
  | 0, _, _, _, _, _ => none
  | n + 1, x1, x2, x3, x4, x5 =>
    if x1 ≤ x5 then
      some ((-1 : Int32))
    else
      (bd (f_X8_beginsRun x4 x1) fun t2 =>
       if t2 = 0 then
         f_X8_runLength_48 (fun x1 x2 x3 x4 x5 => f_X8_runLength_18 n x1 x2 x3 x4 x5) x1 x2 x3 x4 x5
       else
         (if x3 = x2 then
            (bd (f_X8_stepsLikeFirst x4 x1) fun t5 =>
             some (t5))
          else
            f_X8_runLength_48 (fun x1 x2 x3 x4 x5 => f_X8_runLength_18 n x1 x2 x3 x4 x5) x1 x2 (x3 + 1) x4 x5))
def f_X8_runLength (p0 : Int32) (p1 : Int32) (p2 : Int32) : Option (Int32) :=
  bd (f_X8_hexes p0 p1) fun t1 =>
  if t1 = 0 then
    some (p1)
  else
    f_X8_runLength_18 kFU p1 p2 (0 : Int32) p0 (0 : Int32)
def f_X8_letterBehind (p0 : Int32) (p1 : Int32) : Option (Int32) :=
  if p1 = 0 then
    (some ((p0 + (2 : Int32)) - (p0 + (2 : Int32)) / (3 : Int32) * (3 : Int32)))
  else
    (some ((p0 + (1 : Int32)) - (p0 + (1 : Int32)) / (3 : Int32) * (3 : Int32)))
def f_X8_letterAt_8 : Nat → Int32 → Int32 → Int32 → Int32 → Int32 → Option (Int32)
  | 0, _, _, _, _, _ => none
  | n + 1, x1, x2, x3, x4, x5 =>
    if x2 ≤ x5 then
      some (x3)
    else
      (bd (f_X8_startsUp x4 x1) fun t2 =>
       bd (f_X8_letterBehind x3 t2) fun t3 =>
       bd (f_X8_turned x4 x1) fun t4 =>
       f_X8_letterAt_8 n x1 x2 t3 t4 (x5 + 1))
def f_X8_letterAt (p0 : Int32) (p1 : Int32) (p2 : Int32) : Option (Int32) :=
  f_X8_letterAt_8 kFU p1 p2 (0 : Int32) p0 (0 : Int32)
def f_X8_layersAlike_50 (k27 : Int32 → Int32 → Int32 → Int32 → Int32 → Int32 → Int32 → Int32 → Option (Int32)) (x0 : Int32) (x1 : Int32) (x4 : Int32) (x5 : Int32) (x6 : Int32) (x7 : Int32) (x8 : Int32) (s0 : Int32) (s1 : Int32) : Option (Int32) :=
  lt (s0 + s1) fun n1 =>
  bd (f_X8_startsUp x6 x1) fun t2 =>
  bd (f_X8_letterBehind x4 t2) fun t3 =>
  bd (f_X8_startsUp x7 x1) fun t4 =>
  bd (f_X8_letterBehind x5 t4) fun t5 =>
  bd (f_X8_turned x6 x1) fun t6 =>
  bd (f_X8_turned x7 x1) fun t7 =>
  k27 x0 x1 n1 t3 t5 t6 t7 (x8 + 1)
def f_X8_layersAlike_27 : Nat → Int32 → Int32 → Int32 → Int32 → Int32 → Int32 → Int32 → Int32 → Option (Int32)
  | 0, _, _, _, _, _, _, _, _ => none
  | n + 1, x0, x1, x3, x4, x5, x6, x7, x8 =>
    bd (f_X8_repeatsAfter x0 x1) fun t1 =>
    if t1 ≤ x8 then
      some (x3)
    else
      (if x4 = x5 then
         f_X8_layersAlike_50 (fun x0 x1 x3 x4 x5 x6 x7 x8 => f_X8_layersAlike_27 n x0 x1 x3 x4 x5 x6 x7 x8) x0 x1 x4 x5 x6 x7 x8 x3 (1 : Int32)
       else
         f_X8_layersAlike_50 (fun x0 x1 x3 x4 x5 x6 x7 x8 => f_X8_layersAlike_27 n x0 x1 x3 x4 x5 x6 x7 x8) x0 x1 x4 x5 x6 x7 x8 x3 (0 : Int32))
def f_X8_layersAlike (p0 : Int32) (p1 : Int32) (p2 : Int32) : Option (Int32) :=
  bd (f_X8_letterAt p0 p1 p2) fun t1 =>
  bd (f_X8_turnedBy p0 p1 p2) fun t2 =>
  f_X8_layersAlike_27 kFU p0 p1 (0 : Int32) (0 : Int32) t1 p0 t2 (0 : Int32)
def f_X8_allows (p0 : Int32) (p1 : Int32) : Option (Int32) :=
  if (p1 &&& (p0 ^^^ (-1 : Int32))) = 0 then
    some ((1 : Int32))
  else
    some ((0 : Int32))
def f_X8_inWay_15 (x1 : Int32) (x2 : Int32) (s0 : Int32) : Option (Int32) :=
  if (x2 &&& (2 : Int32)) = 0 then
    some (s0)
  else
    (bd (f_X8_fromBelow s0 x1) fun t2 =>
     some (t2))
def f_X8_inWay (p0 : Int32) (p1 : Int32) (p2 : Int32) : Option (Int32) :=
  if (p2 &&& (1 : Int32)) = 0 then
    f_X8_inWay_15 p1 p2 p0
  else
    (bd (f_X8_twinned p0 p1) fun t2 =>
     f_X8_inWay_15 p1 p2 t2)
def f_X8_leastTurned_7 : Nat → Int32 → Int32 → Int32 → Int32 → Option (Int32)
  | 0, _, _, _, _ => none
  | n + 1, x1, x2, x3, x4 =>
    if x1 ≤ x4 then
      some (x2)
    else
      (bd (f_X8_turned x3 x1) fun t2 =>
       lt (if t2 < x2 then t2 else x2) fun n3 =>
       f_X8_leastTurned_7 n x1 n3 t2 (x4 + 1))
def f_X8_leastTurned (p0 : Int32) (p1 : Int32) : Option (Int32) :=
  f_X8_leastTurned_7 kFU p1 p0 p0 (1 : Int32)
def f_X8_leastAlike_36 (k5 : Int32 → Int32 → Int32 → Int32 → Int32 → Option (Int32)) (x0 : Int32) (x1 : Int32) (x2 : Int32) (x3 : Int32) (x4 : Int32) : Option (Int32) :=
  k5 x0 x1 x2 x3 (x4 + 1)
def f_X8_leastAlike_5 : Nat → Int32 → Int32 → Int32 → Int32 → Int32 → Option (Int32)
  | 0, _, _, _, _, _ => none
  | n + 1, x0, x1, x2, x3, x4 =>
    if (3 : Int32) < x4 then
      some (x3)
    else
      (bd (f_X8_allows x2 x4) fun t2 =>
       if t2 = 0 then
         f_X8_leastAlike_36 (fun x0 x1 x2 x3 x4 => f_X8_leastAlike_5 n x0 x1 x2 x3 x4) x0 x1 x2 x3 x4
       else
         (bd (f_X8_inWay x0 x1 x4) fun t4 =>
          bd (f_X8_leastTurned t4 x1) fun t5 =>
          lt (if t5 < x3 then t5 else x3) fun n6 =>
          f_X8_leastAlike_36 (fun x0 x1 x2 x3 x4 => f_X8_leastAlike_5 n x0 x1 x2 x3 x4) x0 x1 x2 n6 x4))
def f_X8_leastAlike (p0 : Int32) (p1 : Int32) (p2 : Int32) : Option (Int32) :=
  f_X8_leastAlike_5 kFU p0 p1 p2 p0 (0 : Int32)
def f_X8_isLeastAlike_54 (k2 : Int32 → Int32 → Int32 → Int32 → Option (Int32)) (x0 : Int32) (x1 : Int32) (x2 : Int32) (x3 : Int32) : Option (Int32) :=
  k2 x0 x1 x2 (x3 + 1)
def f_X8_isLeastAlike_18 (k2 : Int32 → Int32 → Int32 → Int32 → Option (Int32)) : Nat → Int32 → Int32 → Int32 → Int32 → Int32 → Int32 → Option (Int32)
  | 0, _, _, _, _, _, _ => none
  | n + 1, x0, x1, x2, x3, x4, x5 =>
    if x1 ≤ x5 then
      f_X8_isLeastAlike_54 k2 x0 x1 x2 x3
    else
      (bd (f_X8_allows x2 x3) fun t2 =>
       if t2 = 0 then
         f_X8_isLeastAlike_54 k2 x0 x1 x2 x3
       else
         (if x0 ≤ x4 then
            (bd (f_X8_turned x4 x1) fun t5 =>
             f_X8_isLeastAlike_18 k2 n x0 x1 x2 x3 t5 (x5 + 1))
          else
            some ((0 : Int32))))
def f_X8_isLeastAlike_2 : Nat → Int32 → Int32 → Int32 → Int32 → Option (Int32)
  | 0, _, _, _, _ => none
  | n + 1, x0, x1, x2, x3 =>
    if (3 : Int32) < x3 then
      some ((1 : Int32))
    else
      (bd (f_X8_inWay x0 x1 x3) fun t2 =>
       f_X8_isLeastAlike_18 (fun x0 x1 x2 x3 => f_X8_isLeastAlike_2 n x0 x1 x2 x3) kFU x0 x1 x2 x3 t2 (0 : Int32))
def f_X8_isLeastAlike (p0 : Int32) (p1 : Int32) (p2 : Int32) : Option (Int32) :=
  f_X8_isLeastAlike_2 kFU p0 p1 p2 (0 : Int32)
def f_X8_countAlike_73 (k5 : Int32 → Int32 → Int32 → Int32 → Int32 → Option (Int32)) (k22 : Int32 → Int32 → Int32 → Int32 → Int32 → Int32 → Int32 → Option (Int32)) (x0 : Int32) (x1 : Int32) (x2 : Int32) (x3 : Int32) (x4 : Int32) (x6 : Int32) (s0 : Int32) : Option (Int32) :=
  k22 x0 x1 x2 x3 x4 s0 (x6 + 1)
def f_X8_countAlike_68 (k5 : Int32 → Int32 → Int32 → Int32 → Int32 → Option (Int32)) (k22 : Int32 → Int32 → Int32 → Int32 → Int32 → Int32 → Int32 → Option (Int32)) (x0 : Int32) (x1 : Int32) (x2 : Int32) (x3 : Int32) (x4 : Int32) (x6 : Int32) : Option (Int32) :=
  f_X8_countAlike_73 k5 k22 x0 x1 x2 x3 x4 x6 (1 : Int32)
def f_X8_countAlike_92 (k5 : Int32 → Int32 → Int32 → Int32 → Int32 → Option (Int32)) (x0 : Int32) (x1 : Int32) (x2 : Int32) (x4 : Int32) (s0 : Int32) (s1 : Int32) : Option (Int32) :=
  lt (s0 + s1) fun n1 =>
  k5 x0 x1 x2 n1 (x4 + 1)
def f_X8_countAlike_81 (k5 : Int32 → Int32 → Int32 → Int32 → Int32 → Option (Int32)) (x0 : Int32) (x1 : Int32) (x2 : Int32) (x3 : Int32) (x4 : Int32) (x5 : Int32) : Option (Int32) :=
  if x5 = 0 then
    f_X8_countAlike_92 k5 x0 x1 x2 x4 x3 (0 : Int32)
  else
    f_X8_countAlike_92 k5 x0 x1 x2 x4 x3 (1 : Int32)
def f_X8_countAlike_22 (k5 : Int32 → Int32 → Int32 → Int32 → Int32 → Option (Int32)) : Nat → Int32 → Int32 → Int32 → Int32 → Int32 → Int32 → Int32 → Option (Int32)
  | 0, _, _, _, _, _, _, _ => none
  | n + 1, x0, x1, x2, x3, x4, x5, x6 =>
    if x4 ≤ x6 then
      f_X8_countAlike_81 k5 x0 x1 x2 x3 x4 x5
    else
      (if x5 = 0 then
         f_X8_countAlike_81 k5 x0 x1 x2 x3 x4 x5
       else
         (bd (f_X8_allows x2 x6) fun t3 =>
          if t3 = 0 then
            f_X8_countAlike_68 k5 (fun x0 x1 x2 x3 x4 x5 x6 => f_X8_countAlike_22 k5 n x0 x1 x2 x3 x4 x5 x6) x0 x1 x2 x3 x4 x6
          else
            (bd (f_X8_inWay x0 x1 x6) fun t5 =>
             bd (f_X8_leastTurned t5 x1) fun t6 =>
             bd (f_X8_inWay x0 x1 x4) fun t7 =>
             bd (f_X8_leastTurned t7 x1) fun t8 =>
             if t6 = t8 then
               f_X8_countAlike_73 k5 (fun x0 x1 x2 x3 x4 x5 x6 => f_X8_countAlike_22 k5 n x0 x1 x2 x3 x4 x5 x6) x0 x1 x2 x3 x4 x6 (0 : Int32)
             else
               f_X8_countAlike_68 k5 (fun x0 x1 x2 x3 x4 x5 x6 => f_X8_countAlike_22 k5 n x0 x1 x2 x3 x4 x5 x6) x0 x1 x2 x3 x4 x6)))
def f_X8_countAlike_5 : Nat → Int32 → Int32 → Int32 → Int32 → Int32 → Option (Int32)
  | 0, _, _, _, _, _ => none
  | n + 1, x0, x1, x2, x3, x4 =>
    if (3 : Int32) < x4 then
      (bd (f_X8_period x0 x1) fun t2 =>
       some (x3 * t2))
    else
      (bd (f_X8_allows x2 x4) fun t3 =>
       f_X8_countAlike_22 (fun x0 x1 x2 x3 x4 => f_X8_countAlike_5 n x0 x1 x2 x3 x4) kFU x0 x1 x2 x3 x4 t3 (0 : Int32))
def f_X8_countAlike (p0 : Int32) (p1 : Int32) (p2 : Int32) : Option (Int32) :=
  f_X8_countAlike_5 kFU p0 p1 p2 (0 : Int32) (0 : Int32)
def f_X8_fewestSlips_67 (k6 : Int32 → Int32 → Int32 → Int32 → Int32 → Int32 → Option (Int32)) (x0 : Int32) (x1 : Int32) (x2 : Int32) (x3 : Int32) (x4 : Int32) (x5 : Int32) : Option (Int32) :=
  k6 x0 x1 x2 x3 x4 (x5 + 1)
def f_X8_fewestSlips_24 (k6 : Int32 → Int32 → Int32 → Int32 → Int32 → Int32 → Option (Int32)) : Nat → Int32 → Int32 → Int32 → Int32 → Int32 → Int32 → Int32 → Int32 → Option (Int32)
  | 0, _, _, _, _, _, _, _, _ => none
  | n + 1, x0, x1, x2, x3, x4, x5, x6, x7 =>
    if x2 ≤ x7 then
      f_X8_fewestSlips_67 k6 x0 x1 x2 x3 x4 x5
    else
      (bd (f_X8_allows x3 x5) fun t2 =>
       if t2 = 0 then
         f_X8_fewestSlips_67 k6 x0 x1 x2 x3 x4 x5
       else
         (bd (f_J6_bitCount_0f7a4 (x0 ^^^ x6)) fun t4 =>
          lt (if t4 < x4 then t4 else x4) fun n5 =>
          bd (f_X8_turned x6 x2) fun t6 =>
          f_X8_fewestSlips_24 k6 n x0 x1 x2 x3 n5 x5 t6 (x7 + 1)))
def f_X8_fewestSlips_6 : Nat → Int32 → Int32 → Int32 → Int32 → Int32 → Int32 → Option (Int32)
  | 0, _, _, _, _, _, _ => none
  | n + 1, x0, x1, x2, x3, x4, x5 =>
    if (3 : Int32) < x5 then
      some (x4)
    else
      (bd (f_X8_inWay x1 x2 x5) fun t2 =>
       f_X8_fewestSlips_24 (fun x0 x1 x2 x3 x4 x5 => f_X8_fewestSlips_6 n x0 x1 x2 x3 x4 x5) kFU x0 x1 x2 x3 x4 x5 t2 (0 : Int32))
def f_X8_fewestSlips (p0 : Int32) (p1 : Int32) (p2 : Int32) (p3 : Int32) : Option (Int32) :=
  f_X8_fewestSlips_6 kFU p0 p1 p2 p3 p2 (0 : Int32)
abbrev rm_X8_all : Room := { frames := 0, cells := 0, slots := 0, locals := 0 }
theorem e_X8_all : yX8_all.cls = RX8 ∧ yX8_all.cls ≠ "java/lang/invoke/MethodHandle" ∧ yX8_all.cls ≠ "java/lang/invoke/VarHandle" ∧ (parseMethodDescriptor yX8_all.desc).map (fun d => d.parameters.length) = some 1 := by decide +kernel
set_option maxHeartbeats 4000000 in
set_option maxRecDepth 100000 in
theorem c_X8_all {l : Launch} {G : k_G} {sz : Nat} {p0 : Int32} {out : Int32} (hrun : f_X8_all p0 = some out) : k_Ci l G yX8_all wsX8_all rm_X8_all [.int p0] [] sz out (fun (_ : Unit) => []) 0 0 := by
  refine k_of (cc := cX8_all) (nL := 1) (ret := some .int) (own := RX8) (nm := "all") (by decide) rfl rfl rfl rfl ?_
  intro p e s m args below meth c ls hsz C0 hP hD hS hl
  have hl : lv_has ls 1 [(0, .int p0)] := hl
  generalize hH : s.heap = H at hP
  have hS : va_S (va_A [] sz) s.heap H [] := by rw [← hH]; exact hS
  clear hH
  generalize va_A [] sz = A at C0 hD hS ⊢
  have hx := C0.1
  have hb := C0.2.1
  have hts := C0.2.2.2.1
  have hown := C0.2.2.2.2.1
  have hK := C0.2.2.2.2.2.2.2.2.1.1
  have hNW := C0.2.2.2.2.2.2.2.2.1.2.1
  have hSF := C0.2.2.2.2.2.2.2.2.1.2.2
  rw [f_X8_all] at hrun
  refine lv_iconst (v := 1) hx hb dX8_all_0 (by decide) ?_
  refine lv_iload_n hx hb dX8_all_1 rfl (lv_at hl 0 rfl) ?_
  refine lv_ishl hx hb dX8_all_2 ?_
  refine lv_iconst (v := 1) hx hb dX8_all_3 (by decide) ?_
  refine lv_isub hx hb dX8_all_4 ?_
  obtain rfl := Option.some.inj hrun
  exact k_reti C0 hP hD hS () rfl rfl dX8_all_5
abbrev rm_X8_bit : Room := { frames := 0, cells := 0, slots := 0, locals := 0 }
theorem e_X8_bit : yX8_bit.cls = RX8 ∧ yX8_bit.cls ≠ "java/lang/invoke/MethodHandle" ∧ yX8_bit.cls ≠ "java/lang/invoke/VarHandle" ∧ (parseMethodDescriptor yX8_bit.desc).map (fun d => d.parameters.length) = some 2 := by decide +kernel
set_option maxHeartbeats 4000000 in
set_option maxRecDepth 100000 in
theorem c_X8_bit {l : Launch} {G : k_G} {sz : Nat} {p0 : Int32} {p1 : Int32} {out : Int32} (hrun : f_X8_bit p0 p1 = some out) : k_Ci l G yX8_bit wsX8_bit rm_X8_bit [.int p0, .int p1] [] sz out (fun (_ : Unit) => []) 0 0 := by
  refine k_of (cc := cX8_bit) (nL := 2) (ret := some .int) (own := RX8) (nm := "bit") (by decide) rfl rfl rfl rfl ?_
  intro p e s m args below meth c ls hsz C0 hP hD hS hl
  have hl : lv_has ls 2 [(0, .int p0), (1, .int p1)] := hl
  generalize hH : s.heap = H at hP
  have hS : va_S (va_A [] sz) s.heap H [] := by rw [← hH]; exact hS
  clear hH
  generalize va_A [] sz = A at C0 hD hS ⊢
  have hx := C0.1
  have hb := C0.2.1
  have hts := C0.2.2.2.1
  have hown := C0.2.2.2.2.1
  have hK := C0.2.2.2.2.2.2.2.2.1.1
  have hNW := C0.2.2.2.2.2.2.2.2.1.2.1
  have hSF := C0.2.2.2.2.2.2.2.2.1.2.2
  rw [f_X8_bit] at hrun
  refine lv_iconst (v := 1) hx hb dX8_bit_0 (by decide) ?_
  refine lv_iload_n hx hb dX8_bit_1 rfl (lv_at hl 0 rfl) ?_
  refine lv_iconst (v := 1) hx hb dX8_bit_2 (by decide) ?_
  refine lv_isub hx hb dX8_bit_3 ?_
  refine lv_iload_n hx hb dX8_bit_4 rfl (lv_at hl 1 rfl) ?_
  refine lv_isub hx hb dX8_bit_5 ?_
  refine lv_ishl hx hb dX8_bit_6 ?_
  obtain rfl := Option.some.inj hrun
  exact k_reti C0 hP hD hS () rfl rfl dX8_bit_7
abbrev rm_X8_startsUp : Room := { frames := 0, cells := 0, slots := 0, locals := 0 }
theorem e_X8_startsUp : yX8_startsUp.cls = RX8 ∧ yX8_startsUp.cls ≠ "java/lang/invoke/MethodHandle" ∧ yX8_startsUp.cls ≠ "java/lang/invoke/VarHandle" ∧ (parseMethodDescriptor yX8_startsUp.desc).map (fun d => d.parameters.length) = some 2 := by decide +kernel
set_option maxHeartbeats 4000000 in
set_option maxRecDepth 100000 in
theorem c_X8_startsUp {l : Launch} {G : k_G} {sz : Nat} {p0 : Int32} {p1 : Int32} {out : Int32} (hrun : f_X8_startsUp p0 p1 = some out) : k_Ci l G yX8_startsUp wsX8_startsUp rm_X8_startsUp [.int p0, .int p1] [] sz out (fun (_ : Unit) => []) 0 0 := by
  refine k_of (cc := cX8_startsUp) (nL := 2) (ret := some .boolean) (own := RX8) (nm := "startsUp") (by decide) rfl rfl rfl rfl ?_
  intro p e s m args below meth c ls hsz C0 hP hD hS hl
  have hl : lv_has ls 2 [(0, .int p0), (1, .int p1)] := hl
  generalize hH : s.heap = H at hP
  have hS : va_S (va_A [] sz) s.heap H [] := by rw [← hH]; exact hS
  clear hH
  generalize va_A [] sz = A at C0 hD hS ⊢
  have hx := C0.1
  have hb := C0.2.1
  have hts := C0.2.2.2.1
  have hown := C0.2.2.2.2.1
  have hK := C0.2.2.2.2.2.2.2.2.1.1
  have hNW := C0.2.2.2.2.2.2.2.2.1.2.1
  have hSF := C0.2.2.2.2.2.2.2.2.1.2.2
  rw [f_X8_startsUp] at hrun
  refine lv_iload_n hx hb dX8_startsUp_0 rfl (lv_at hl 0 rfl) ?_
  refine lv_iload_n hx hb dX8_startsUp_1 rfl (lv_at hl 1 rfl) ?_
  refine lv_iconst (v := 1) hx hb dX8_startsUp_2 (by decide) ?_
  refine lv_isub hx hb dX8_startsUp_3 ?_
  refine lv_ishr hx hb dX8_startsUp_4 ?_
  refine lv_iconst (v := 1) hx hb dX8_startsUp_5 (by decide) ?_
  refine lv_iand hx hb dX8_startsUp_6 ?_
  refine lv_if_eq (tgt := 14) hx hb dX8_startsUp_7 (by decide) (fun q1 => ?_) (fun q1 => ?_)
  · replace hrun := if_t q1 hrun
    refine lv_iconst (v := 0) hx hb dX8_startsUp_14 (by decide) ?_
    obtain rfl := Option.some.inj hrun
    exact k_retz C0 hP hD hS () rfl rfl rfl dX8_startsUp_15
  · replace hrun := if_f q1 hrun
    refine lv_iconst (v := 1) hx hb dX8_startsUp_10 (by decide) ?_
    refine lv_goto (tgt := 15) hx hb dX8_startsUp_11 (by decide) ?_
    obtain rfl := Option.some.inj hrun
    exact k_retz C0 hP hD hS () rfl rfl rfl dX8_startsUp_15
abbrev rm_X8_turned : Room := { frames := 0, cells := 0, slots := 0, locals := 0 }
theorem e_X8_turned : yX8_turned.cls = RX8 ∧ yX8_turned.cls ≠ "java/lang/invoke/MethodHandle" ∧ yX8_turned.cls ≠ "java/lang/invoke/VarHandle" ∧ (parseMethodDescriptor yX8_turned.desc).map (fun d => d.parameters.length) = some 2 := by decide +kernel
set_option maxHeartbeats 4000000 in
set_option maxRecDepth 100000 in
theorem c_X8_turned {l : Launch} {G : k_G} {sz : Nat} {p0 : Int32} {p1 : Int32} {out : Int32} (hrun : f_X8_turned p0 p1 = some out) : k_Ci l G yX8_turned wsX8_turned rm_X8_turned [.int p0, .int p1] [] sz out (fun (_ : Unit) => []) 0 0 := by
  refine k_of (cc := cX8_turned) (nL := 3) (ret := some .int) (own := RX8) (nm := "turned") (by decide) rfl rfl rfl rfl ?_
  intro p e s m args below meth c ls hsz C0 hP hD hS hl
  have hl : lv_has ls 3 [(0, .int p0), (1, .int p1)] := hl
  generalize hH : s.heap = H at hP
  have hS : va_S (va_A [] sz) s.heap H [] := by rw [← hH]; exact hS
  clear hH
  generalize va_A [] sz = A at C0 hD hS ⊢
  have hx := C0.1
  have hb := C0.2.1
  have hts := C0.2.2.2.1
  have hown := C0.2.2.2.2.1
  have hK := C0.2.2.2.2.2.2.2.2.1.1
  have hNW := C0.2.2.2.2.2.2.2.2.1.2.1
  have hSF := C0.2.2.2.2.2.2.2.2.1.2.2
  rw [f_X8_turned] at hrun
  refine lv_iload_n hx hb dX8_turned_0 rfl (lv_at hl 0 rfl) ?_
  refine lv_iconst (v := 1) hx hb dX8_turned_1 (by decide) ?_
  refine lv_iload_n hx hb dX8_turned_2 rfl (lv_at hl 1 rfl) ?_
  refine lv_iconst (v := 1) hx hb dX8_turned_3 (by decide) ?_
  refine lv_isub hx hb dX8_turned_4 ?_
  refine lv_ishl hx hb dX8_turned_5 ?_
  refine lv_iconst (v := 1) hx hb dX8_turned_6 (by decide) ?_
  refine lv_isub hx hb dX8_turned_7 ?_
  refine lv_iand hx hb dX8_turned_8 ?_
  obtain ⟨n1, en, hrun⟩ := lt_inv hrun
  refine k_nmi en ?_
  clear en
  refine lv_istore_n (lv' := [(2, .int n1), (0, .int p0), (1, .int p1)]) hx hb dX8_turned_9 rfl hl (by decide) rfl (fun ls hl => ?_)
  refine lv_iload_n hx hb dX8_turned_10 rfl (lv_at hl 0 rfl) ?_
  refine lv_iconst (v := 1) hx hb dX8_turned_11 (by decide) ?_
  refine lv_ishl hx hb dX8_turned_12 ?_
  refine lv_iload_n hx hb dX8_turned_13 rfl (lv_at hl 1 rfl) ?_
  refine lv_iload_n hx hb dX8_turned_14 rfl (lv_at hl 2 rfl) ?_
  refine lv_iconst (v := 1) hx hb dX8_turned_15 (by decide) ?_
  refine lv_isub hx hb dX8_turned_16 ?_
  refine lv_ishr hx hb dX8_turned_17 ?_
  refine lv_ior hx hb dX8_turned_18 ?_
  obtain rfl := Option.some.inj hrun
  exact k_reti C0 hP hD hS () rfl rfl dX8_turned_19
abbrev rm_X8_turnedBy : Room := { frames := 1, cells := 0, slots := 0, locals := 22 }
theorem e_X8_turnedBy : yX8_turnedBy.cls = RX8 ∧ yX8_turnedBy.cls ≠ "java/lang/invoke/MethodHandle" ∧ yX8_turnedBy.cls ≠ "java/lang/invoke/VarHandle" ∧ (parseMethodDescriptor yX8_turnedBy.desc).map (fun d => d.parameters.length) = some 3 := by decide +kernel
set_option maxHeartbeats 4000000 in
set_option maxRecDepth 100000 in
theorem t_X8_turnedBy_5 {l : Launch} {G : k_G} {p : Program} {e : Env} {s : State} {m : MethodId} {args : Array Value} {below : List Frame} {meth : Method} {c : Code} {A : Nat → Prop} {out : Int32} (C0 : k_C G p s m args meth c A cX8_turnedBy RX8 wsX8_turnedBy 5 (some .int) "turnedBy") : ∀ (n : Nat) (x1 : Int32) (x2 : Int32) (x3 : Int32) (x4 : Int32) (H : Heap) (locs : List Loc) (ls : Array Slot), va_P G.1 vwCl [] H → va_D A [] → va_S A s.heap H locs → lv_has ls 5 [(1, .int x1), (2, .int x2), (3, .int x3), (4, .int x4)] → f_X8_turnedBy_5 n x1 x2 x3 x4 = some out → W p l e rm_X8_turnedBy s m args below meth c H locs 0 0 (MQ below (k_Qi G A out (fun (_ : Unit) => [])) args s 0 0 A) (F0 m 5 ls []) := by
  have hx := C0.1
  have hb := C0.2.1
  have hts := C0.2.2.2.1
  have hown := C0.2.2.2.2.1
  have hK := C0.2.2.2.2.2.2.2.2.1.1
  have hNW := C0.2.2.2.2.2.2.2.2.1.2.1
  have hSF := C0.2.2.2.2.2.2.2.2.1.2.2
  intro n
  induction n with
  | zero =>
    intro x1 x2 x3 x4 H locs ls hP hD hS hl hrun
    rw [f_X8_turnedBy_5] at hrun
    cases hrun
  | succ n ih =>
    intro x1 x2 x3 x4 H locs ls hP hD hS hl hrun
    rw [f_X8_turnedBy_5] at hrun
    refine lv_iload hx hb dX8_turnedBy_5 (lv_at hl 3 rfl) ?_
    refine lv_iload_n hx hb dX8_turnedBy_7 rfl (lv_at hl 1 rfl) ?_
    refine lv_icmp_ge (tgt := 23) hx hb dX8_turnedBy_8 (by decide) (fun q1 => ?_) (fun q1 => ?_)
    · replace hrun := if_t q1 hrun
      refine lv_iload_n hx hb dX8_turnedBy_23 rfl (lv_at hl 2 rfl) ?_
      obtain rfl := Option.some.inj hrun
      exact k_reti C0 hP hD hS () rfl rfl dX8_turnedBy_24
    · replace hrun := if_f q1 hrun
      refine lv_iload_n hx hb dX8_turnedBy_11 rfl (lv_at hl 2 rfl) ?_
      refine lv_iload_n hx hb dX8_turnedBy_12 rfl (lv_at hl 0 rfl) ?_
      obtain ⟨t2, et2, hrun⟩ := bd_inv hrun
      refine k_calli0 C0 (k_runS (rest := []) C0 (c_X8_turned et2) (va_cwS 2 hts gX8_turnedBy_X8_turned rfl rfl rfl e_X8_turned.2 ⟨Nat.le_of_ble_eq_true rfl, Nat.le_of_ble_eq_true rfl⟩) hP hD hS [] rfl (by decide) rfl hl.1 rfl (Nat.le_of_ble_eq_true rfl) dX8_turnedBy_13 ⟨Nat.le_of_ble_eq_true rfl, Nat.le_of_ble_eq_true rfl⟩) hP hS (fun H locs hP hS => ?_)
      refine lv_istore_n (lv' := [(3, .int t2), (1, .int x1), (2, .int x2), (4, .int x4)]) hx hb dX8_turnedBy_16 rfl hl (by decide) rfl (fun ls hl => ?_)
      refine lv_iinc (v := x4 + 1) (lv' := [(4, .int (x4 + 1)), (3, .int t2), (1, .int x1), (2, .int x2)]) hx hb dX8_turnedBy_17 hl (k := 3) rfl rfl (by decide) rfl (fun ls hl => ?_)
      refine lv_goto (tgt := 5) hx hb dX8_turnedBy_20 (by decide) ?_
      exact ih x1 x2 t2 (x4 + 1) _ _ _ hP hD hS (lv_sub hl [2, 3, 1, 0] rfl) hrun
set_option maxHeartbeats 4000000 in
set_option maxRecDepth 100000 in
theorem c_X8_turnedBy {l : Launch} {G : k_G} {sz : Nat} {p0 : Int32} {p1 : Int32} {p2 : Int32} {out : Int32} (hrun : f_X8_turnedBy p0 p1 p2 = some out) : k_Ci l G yX8_turnedBy wsX8_turnedBy rm_X8_turnedBy [.int p0, .int p1, .int p2] [] sz out (fun (_ : Unit) => []) 0 0 := by
  refine k_of (cc := cX8_turnedBy) (nL := 5) (ret := some .int) (own := RX8) (nm := "turnedBy") (by decide) rfl rfl rfl rfl ?_
  intro p e s m args below meth c ls hsz C0 hP hD hS hl
  have hl : lv_has ls 5 [(0, .int p0), (1, .int p1), (2, .int p2)] := hl
  generalize hH : s.heap = H at hP
  have hS : va_S (va_A [] sz) s.heap H [] := by rw [← hH]; exact hS
  clear hH
  generalize va_A [] sz = A at C0 hD hS ⊢
  have hx := C0.1
  have hb := C0.2.1
  have hts := C0.2.2.2.1
  have hown := C0.2.2.2.2.1
  have hK := C0.2.2.2.2.2.2.2.2.1.1
  have hNW := C0.2.2.2.2.2.2.2.2.1.2.1
  have hSF := C0.2.2.2.2.2.2.2.2.1.2.2
  rw [f_X8_turnedBy] at hrun
  refine lv_iload_n hx hb dX8_turnedBy_0 rfl (lv_at hl 0 rfl) ?_
  refine lv_istore_n (lv' := [(3, .int p0), (0, .int p0), (1, .int p1), (2, .int p2)]) hx hb dX8_turnedBy_1 rfl hl (by decide) rfl (fun ls hl => ?_)
  refine lv_iconst (v := 0) hx hb dX8_turnedBy_2 (by decide) ?_
  refine lv_istore (lv' := [(4, .int (0 : Int32)), (3, .int p0), (0, .int p0), (1, .int p1), (2, .int p2)]) hx hb dX8_turnedBy_3 hl (by decide) rfl (fun ls hl => ?_)
  exact t_X8_turnedBy_5 C0 kFU p1 p2 p0 (0 : Int32) _ _ _ hP hD hS (lv_sub hl [3, 4, 1, 0] rfl) hrun
abbrev rm_X8_twinned : Room := { frames := 1, cells := 0, slots := 0, locals := 20 }
theorem e_X8_twinned : yX8_twinned.cls = RX8 ∧ yX8_twinned.cls ≠ "java/lang/invoke/MethodHandle" ∧ yX8_twinned.cls ≠ "java/lang/invoke/VarHandle" ∧ (parseMethodDescriptor yX8_twinned.desc).map (fun d => d.parameters.length) = some 2 := by decide +kernel
set_option maxHeartbeats 4000000 in
set_option maxRecDepth 100000 in
theorem c_X8_twinned {l : Launch} {G : k_G} {sz : Nat} {p0 : Int32} {p1 : Int32} {out : Int32} (hrun : f_X8_twinned p0 p1 = some out) : k_Ci l G yX8_twinned wsX8_twinned rm_X8_twinned [.int p0, .int p1] [] sz out (fun (_ : Unit) => []) 0 0 := by
  refine k_of (cc := cX8_twinned) (nL := 2) (ret := some .int) (own := RX8) (nm := "twinned") (by decide) rfl rfl rfl rfl ?_
  intro p e s m args below meth c ls hsz C0 hP hD hS hl
  have hl : lv_has ls 2 [(0, .int p0), (1, .int p1)] := hl
  generalize hH : s.heap = H at hP
  have hS : va_S (va_A [] sz) s.heap H [] := by rw [← hH]; exact hS
  clear hH
  generalize va_A [] sz = A at C0 hD hS ⊢
  have hx := C0.1
  have hb := C0.2.1
  have hts := C0.2.2.2.1
  have hown := C0.2.2.2.2.1
  have hK := C0.2.2.2.2.2.2.2.2.1.1
  have hNW := C0.2.2.2.2.2.2.2.2.1.2.1
  have hSF := C0.2.2.2.2.2.2.2.2.1.2.2
  rw [f_X8_twinned] at hrun
  refine lv_iload_n hx hb dX8_twinned_0 rfl (lv_at hl 0 rfl) ?_
  refine lv_iload_n hx hb dX8_twinned_1 rfl (lv_at hl 1 rfl) ?_
  obtain ⟨t1, et1, hrun⟩ := bd_inv hrun
  refine k_calli0 C0 (k_runS (rest := [.int p0]) C0 (c_X8_all et1) (va_cwS 1 hts gX8_twinned_X8_all rfl rfl rfl e_X8_all.2 ⟨Nat.le_of_ble_eq_true rfl, Nat.le_of_ble_eq_true rfl⟩) hP hD hS [] rfl (by decide) rfl hl.1 rfl (Nat.le_of_ble_eq_true rfl) dX8_twinned_2 ⟨Nat.le_of_ble_eq_true rfl, Nat.le_of_ble_eq_true rfl⟩) hP hS (fun H locs hP hS => ?_)
  refine lv_ixor hx hb dX8_twinned_5 ?_
  obtain rfl := Option.some.inj hrun
  exact k_reti C0 hP hD hS () rfl rfl dX8_twinned_6
abbrev rm_X8_fromBelow : Room := { frames := 2, cells := 0, slots := 0, locals := 41 }
theorem e_X8_fromBelow : yX8_fromBelow.cls = RX8 ∧ yX8_fromBelow.cls ≠ "java/lang/invoke/MethodHandle" ∧ yX8_fromBelow.cls ≠ "java/lang/invoke/VarHandle" ∧ (parseMethodDescriptor yX8_fromBelow.desc).map (fun d => d.parameters.length) = some 2 := by decide +kernel
set_option maxHeartbeats 4000000 in
set_option maxRecDepth 100000 in
theorem t_X8_fromBelow_4 {l : Launch} {G : k_G} {p : Program} {e : Env} {s : State} {m : MethodId} {args : Array Value} {below : List Frame} {meth : Method} {c : Code} {A : Nat → Prop} {out : Int32} (C0 : k_C G p s m args meth c A cX8_fromBelow RX8 wsX8_fromBelow 4 (some .int) "fromBelow") : ∀ (n : Nat) (x0 : Int32) (x1 : Int32) (x2 : Int32) (x3 : Int32) (H : Heap) (locs : List Loc) (ls : Array Slot), va_P G.1 vwCl [] H → va_D A [] → va_S A s.heap H locs → lv_has ls 4 [(0, .int x0), (1, .int x1), (2, .int x2), (3, .int x3)] → f_X8_fromBelow_4 n x0 x1 x2 x3 = some out → W p l e rm_X8_fromBelow s m args below meth c H locs 0 0 (MQ below (k_Qi G A out (fun (_ : Unit) => [])) args s 0 0 A) (F0 m 4 ls []) := by
  have hx := C0.1
  have hb := C0.2.1
  have hts := C0.2.2.2.1
  have hown := C0.2.2.2.2.1
  have hK := C0.2.2.2.2.2.2.2.2.1.1
  have hNW := C0.2.2.2.2.2.2.2.2.1.2.1
  have hSF := C0.2.2.2.2.2.2.2.2.1.2.2
  intro n
  induction n with
  | zero =>
    intro x0 x1 x2 x3 H locs ls hP hD hS hl hrun
    rw [f_X8_fromBelow_4] at hrun
    cases hrun
  | succ n ih =>
    intro x0 x1 x2 x3 H locs ls hP hD hS hl hrun
    rw [f_X8_fromBelow_4] at hrun
    refine lv_iload_n hx hb dX8_fromBelow_4 rfl (lv_at hl 3 rfl) ?_
    refine lv_iload_n hx hb dX8_fromBelow_5 rfl (lv_at hl 1 rfl) ?_
    refine lv_icmp_ge (tgt := 25) hx hb dX8_fromBelow_6 (by decide) (fun q1 => ?_) (fun q1 => ?_)
    · replace hrun := if_t q1 hrun
      refine lv_iload_n hx hb dX8_fromBelow_25 rfl (lv_at hl 2 rfl) ?_
      refine lv_iload_n hx hb dX8_fromBelow_26 rfl (lv_at hl 1 rfl) ?_
      obtain ⟨t2, et2, hrun⟩ := bd_inv hrun
      refine k_calli0 C0 (k_runS (rest := []) C0 (c_X8_twinned et2) (va_cwS 2 hts gX8_fromBelow_X8_twinned rfl rfl rfl e_X8_twinned.2 ⟨Nat.le_of_ble_eq_true rfl, Nat.le_of_ble_eq_true rfl⟩) hP hD hS [] rfl (by decide) rfl hl.1 rfl (Nat.le_of_ble_eq_true rfl) dX8_fromBelow_27 ⟨Nat.le_of_ble_eq_true rfl, Nat.le_of_ble_eq_true rfl⟩) hP hS (fun H locs hP hS => ?_)
      obtain rfl := Option.some.inj hrun
      exact k_reti C0 hP hD hS () rfl rfl dX8_fromBelow_30
    · replace hrun := if_f q1 hrun
      refine lv_iload_n hx hb dX8_fromBelow_9 rfl (lv_at hl 2 rfl) ?_
      refine lv_iconst (v := 2) hx hb dX8_fromBelow_10 (by decide) ?_
      refine lv_imul hx hb dX8_fromBelow_11 ?_
      refine lv_iload_n hx hb dX8_fromBelow_12 rfl (lv_at hl 0 rfl) ?_
      refine lv_iload_n hx hb dX8_fromBelow_13 rfl (lv_at hl 3 rfl) ?_
      refine lv_ishr hx hb dX8_fromBelow_14 ?_
      refine lv_iconst (v := 1) hx hb dX8_fromBelow_15 (by decide) ?_
      refine lv_iand hx hb dX8_fromBelow_16 ?_
      refine lv_iadd hx hb dX8_fromBelow_17 ?_
      obtain ⟨n3, en, hrun⟩ := lt_inv hrun
      refine k_nmi en ?_
      clear en
      refine lv_istore_n (lv' := [(2, .int n3), (0, .int x0), (1, .int x1), (3, .int x3)]) hx hb dX8_fromBelow_18 rfl hl (by decide) rfl (fun ls hl => ?_)
      refine lv_iinc (v := x3 + 1) (lv' := [(3, .int (x3 + 1)), (2, .int n3), (0, .int x0), (1, .int x1)]) hx hb dX8_fromBelow_19 hl (k := 3) rfl rfl (by decide) rfl (fun ls hl => ?_)
      refine lv_goto (tgt := 4) hx hb dX8_fromBelow_22 (by decide) ?_
      exact ih x0 x1 n3 (x3 + 1) _ _ _ hP hD hS (lv_sub hl [2, 3, 1, 0] rfl) hrun
set_option maxHeartbeats 4000000 in
set_option maxRecDepth 100000 in
theorem c_X8_fromBelow {l : Launch} {G : k_G} {sz : Nat} {p0 : Int32} {p1 : Int32} {out : Int32} (hrun : f_X8_fromBelow p0 p1 = some out) : k_Ci l G yX8_fromBelow wsX8_fromBelow rm_X8_fromBelow [.int p0, .int p1] [] sz out (fun (_ : Unit) => []) 0 0 := by
  refine k_of (cc := cX8_fromBelow) (nL := 4) (ret := some .int) (own := RX8) (nm := "fromBelow") (by decide) rfl rfl rfl rfl ?_
  intro p e s m args below meth c ls hsz C0 hP hD hS hl
  have hl : lv_has ls 4 [(0, .int p0), (1, .int p1)] := hl
  generalize hH : s.heap = H at hP
  have hS : va_S (va_A [] sz) s.heap H [] := by rw [← hH]; exact hS
  clear hH
  generalize va_A [] sz = A at C0 hD hS ⊢
  have hx := C0.1
  have hb := C0.2.1
  have hts := C0.2.2.2.1
  have hown := C0.2.2.2.2.1
  have hK := C0.2.2.2.2.2.2.2.2.1.1
  have hNW := C0.2.2.2.2.2.2.2.2.1.2.1
  have hSF := C0.2.2.2.2.2.2.2.2.1.2.2
  rw [f_X8_fromBelow] at hrun
  refine lv_iconst (v := 0) hx hb dX8_fromBelow_0 (by decide) ?_
  refine lv_istore_n (lv' := [(2, .int (0 : Int32)), (0, .int p0), (1, .int p1)]) hx hb dX8_fromBelow_1 rfl hl (by decide) rfl (fun ls hl => ?_)
  refine lv_iconst (v := 0) hx hb dX8_fromBelow_2 (by decide) ?_
  refine lv_istore_n (lv' := [(3, .int (0 : Int32)), (2, .int (0 : Int32)), (0, .int p0), (1, .int p1)]) hx hb dX8_fromBelow_3 rfl hl (by decide) rfl (fun ls hl => ?_)
  exact t_X8_fromBelow_4 C0 kFU p0 p1 (0 : Int32) (0 : Int32) _ _ _ hP hD hS (lv_sub hl [2, 3, 1, 0] rfl) hrun
abbrev rm_X8_otherFrom : Room := { frames := 1, cells := 0, slots := 0, locals := 20 }
theorem e_X8_otherFrom : yX8_otherFrom.cls = RX8 ∧ yX8_otherFrom.cls ≠ "java/lang/invoke/MethodHandle" ∧ yX8_otherFrom.cls ≠ "java/lang/invoke/VarHandle" ∧ (parseMethodDescriptor yX8_otherFrom.desc).map (fun d => d.parameters.length) = some 3 := by decide +kernel
set_option maxHeartbeats 4000000 in
set_option maxRecDepth 100000 in
theorem c_X8_otherFrom {l : Launch} {G : k_G} {sz : Nat} {p0 : Int32} {p1 : Int32} {p2 : Int32} {out : Int32} (hrun : f_X8_otherFrom p0 p1 p2 = some out) : k_Ci l G yX8_otherFrom wsX8_otherFrom rm_X8_otherFrom [.int p0, .int p1, .int p2] [] sz out (fun (_ : Unit) => []) 0 0 := by
  refine k_of (cc := cX8_otherFrom) (nL := 3) (ret := some .int) (own := RX8) (nm := "otherFrom") (by decide) rfl rfl rfl rfl ?_
  intro p e s m args below meth c ls hsz C0 hP hD hS hl
  have hl : lv_has ls 3 [(0, .int p0), (1, .int p1), (2, .int p2)] := hl
  generalize hH : s.heap = H at hP
  have hS : va_S (va_A [] sz) s.heap H [] := by rw [← hH]; exact hS
  clear hH
  generalize va_A [] sz = A at C0 hD hS ⊢
  have hx := C0.1
  have hb := C0.2.1
  have hts := C0.2.2.2.1
  have hown := C0.2.2.2.2.1
  have hK := C0.2.2.2.2.2.2.2.2.1.1
  have hNW := C0.2.2.2.2.2.2.2.2.1.2.1
  have hSF := C0.2.2.2.2.2.2.2.2.1.2.2
  rw [f_X8_otherFrom] at hrun
  refine lv_iload_n hx hb dX8_otherFrom_0 rfl (lv_at hl 0 rfl) ?_
  refine lv_iload_n hx hb dX8_otherFrom_1 rfl (lv_at hl 1 rfl) ?_
  refine lv_iload_n hx hb dX8_otherFrom_2 rfl (lv_at hl 2 rfl) ?_
  refine lv_isub hx hb dX8_otherFrom_3 ?_
  obtain ⟨t1, et1, hrun⟩ := bd_inv hrun
  refine k_calli0 C0 (k_runS (rest := [.int p0]) C0 (c_X8_all et1) (va_cwS 1 hts gX8_otherFrom_X8_all rfl rfl rfl e_X8_all.2 ⟨Nat.le_of_ble_eq_true rfl, Nat.le_of_ble_eq_true rfl⟩) hP hD hS [] rfl (by decide) rfl hl.1 rfl (Nat.le_of_ble_eq_true rfl) dX8_otherFrom_4 ⟨Nat.le_of_ble_eq_true rfl, Nat.le_of_ble_eq_true rfl⟩) hP hS (fun H locs hP hS => ?_)
  refine lv_ixor hx hb dX8_otherFrom_7 ?_
  obtain rfl := Option.some.inj hrun
  exact k_reti C0 hP hD hS () rfl rfl dX8_otherFrom_8
theorem u_J6_bitCount_0f7a4_1 : (Cond.constant RJ6 265 (1431655765)) ∈ wsJ6_bitCount_0f7a4 := List.mem_of_getElem? (i := 1) (by decide +kernel)
theorem u_J6_bitCount_0f7a4_2 : (Cond.constant RJ6 266 (858993459)) ∈ wsJ6_bitCount_0f7a4 := List.mem_of_getElem? (i := 2) (by decide +kernel)
theorem u_J6_bitCount_0f7a4_3 : (Cond.constant RJ6 267 (252645135)) ∈ wsJ6_bitCount_0f7a4 := List.mem_of_getElem? (i := 3) (by decide +kernel)
abbrev rm_J6_bitCount_0f7a4 : Room := { frames := 0, cells := 0, slots := 0, locals := 0 }
theorem e_J6_bitCount_0f7a4 : yJ6_bitCount_0f7a4.cls = RJ6 ∧ yJ6_bitCount_0f7a4.cls ≠ "java/lang/invoke/MethodHandle" ∧ yJ6_bitCount_0f7a4.cls ≠ "java/lang/invoke/VarHandle" ∧ (parseMethodDescriptor yJ6_bitCount_0f7a4.desc).map (fun d => d.parameters.length) = some 1 := by decide +kernel
set_option maxHeartbeats 4000000 in
set_option maxRecDepth 100000 in
theorem c_J6_bitCount_0f7a4 {l : Launch} {G : k_G} {sz : Nat} {p0 : Int32} {out : Int32} (hrun : f_J6_bitCount_0f7a4 p0 = some out) : k_Ci l G yJ6_bitCount_0f7a4 wsJ6_bitCount_0f7a4 rm_J6_bitCount_0f7a4 [.int p0] [] sz out (fun (_ : Unit) => []) 0 0 := by
  refine k_of (cc := cJ6_bitCount_0f7a4) (nL := 1) (ret := some .int) (own := RJ6) (nm := "bitCount") (by decide) rfl rfl rfl rfl ?_
  intro p e s m args below meth c ls hsz C0 hP hD hS hl
  have hl : lv_has ls 1 [(0, .int p0)] := hl
  generalize hH : s.heap = H at hP
  have hS : va_S (va_A [] sz) s.heap H [] := by rw [← hH]; exact hS
  clear hH
  generalize va_A [] sz = A at C0 hD hS ⊢
  have hx := C0.1
  have hb := C0.2.1
  have hts := C0.2.2.2.1
  have hown := C0.2.2.2.2.1
  have hK := C0.2.2.2.2.2.2.2.2.1.1
  have hNW := C0.2.2.2.2.2.2.2.2.1.2.1
  have hSF := C0.2.2.2.2.2.2.2.2.1.2.2
  rw [f_J6_bitCount_0f7a4] at hrun
  refine lv_iload_n hx hb dJ6_bitCount_0f7a4_0 rfl (lv_at hl 0 rfl) ?_
  refine lv_iload_n hx hb dJ6_bitCount_0f7a4_1 rfl (lv_at hl 0 rfl) ?_
  refine lv_iconst (v := 1) hx hb dJ6_bitCount_0f7a4_2 (by decide) ?_
  refine lv_iushr hx hb dJ6_bitCount_0f7a4_3 rfl ?_
  refine lv_ldcw (v := 1431655765) hx hb hown (hts _ u_J6_bitCount_0f7a4_1) dJ6_bitCount_0f7a4_4 ?_
  refine lv_iand hx hb dJ6_bitCount_0f7a4_7 ?_
  refine lv_isub hx hb dJ6_bitCount_0f7a4_8 ?_
  obtain ⟨n1, en, hrun⟩ := lt_inv hrun
  refine k_nmi en ?_
  clear en
  refine lv_istore_n (lv' := [(0, .int n1)]) hx hb dJ6_bitCount_0f7a4_9 rfl hl (by decide) rfl (fun ls hl => ?_)
  refine lv_iload_n hx hb dJ6_bitCount_0f7a4_10 rfl (lv_at hl 0 rfl) ?_
  refine lv_ldcw (v := 858993459) hx hb hown (hts _ u_J6_bitCount_0f7a4_2) dJ6_bitCount_0f7a4_11 ?_
  refine lv_iand hx hb dJ6_bitCount_0f7a4_14 ?_
  refine lv_iload_n hx hb dJ6_bitCount_0f7a4_15 rfl (lv_at hl 0 rfl) ?_
  refine lv_iconst (v := 2) hx hb dJ6_bitCount_0f7a4_16 (by decide) ?_
  refine lv_iushr hx hb dJ6_bitCount_0f7a4_17 rfl ?_
  refine lv_ldcw (v := 858993459) hx hb hown (hts _ u_J6_bitCount_0f7a4_2) dJ6_bitCount_0f7a4_18 ?_
  refine lv_iand hx hb dJ6_bitCount_0f7a4_21 ?_
  refine lv_iadd hx hb dJ6_bitCount_0f7a4_22 ?_
  obtain ⟨n2, en, hrun⟩ := lt_inv hrun
  refine k_nmi en ?_
  clear en
  refine lv_istore_n (lv' := [(0, .int n2)]) hx hb dJ6_bitCount_0f7a4_23 rfl hl (by decide) rfl (fun ls hl => ?_)
  refine lv_iload_n hx hb dJ6_bitCount_0f7a4_24 rfl (lv_at hl 0 rfl) ?_
  refine lv_iload_n hx hb dJ6_bitCount_0f7a4_25 rfl (lv_at hl 0 rfl) ?_
  refine lv_iconst (v := 4) hx hb dJ6_bitCount_0f7a4_26 (by decide) ?_
  refine lv_iushr hx hb dJ6_bitCount_0f7a4_27 rfl ?_
  refine lv_iadd hx hb dJ6_bitCount_0f7a4_28 ?_
  refine lv_ldcw (v := 252645135) hx hb hown (hts _ u_J6_bitCount_0f7a4_3) dJ6_bitCount_0f7a4_29 ?_
  refine lv_iand hx hb dJ6_bitCount_0f7a4_32 ?_
  obtain ⟨n3, en, hrun⟩ := lt_inv hrun
  refine k_nmi en ?_
  clear en
  refine lv_istore_n (lv' := [(0, .int n3)]) hx hb dJ6_bitCount_0f7a4_33 rfl hl (by decide) rfl (fun ls hl => ?_)
  refine lv_iload_n hx hb dJ6_bitCount_0f7a4_34 rfl (lv_at hl 0 rfl) ?_
  refine lv_iload_n hx hb dJ6_bitCount_0f7a4_35 rfl (lv_at hl 0 rfl) ?_
  refine lv_bipush (v := 8) hx hb dJ6_bitCount_0f7a4_36 (by decide) ?_
  refine lv_iushr hx hb dJ6_bitCount_0f7a4_38 rfl ?_
  refine lv_iadd hx hb dJ6_bitCount_0f7a4_39 ?_
  obtain ⟨n4, en, hrun⟩ := lt_inv hrun
  refine k_nmi en ?_
  clear en
  refine lv_istore_n (lv' := [(0, .int n4)]) hx hb dJ6_bitCount_0f7a4_40 rfl hl (by decide) rfl (fun ls hl => ?_)
  refine lv_iload_n hx hb dJ6_bitCount_0f7a4_41 rfl (lv_at hl 0 rfl) ?_
  refine lv_iload_n hx hb dJ6_bitCount_0f7a4_42 rfl (lv_at hl 0 rfl) ?_
  refine lv_bipush (v := 16) hx hb dJ6_bitCount_0f7a4_43 (by decide) ?_
  refine lv_iushr hx hb dJ6_bitCount_0f7a4_45 rfl ?_
  refine lv_iadd hx hb dJ6_bitCount_0f7a4_46 ?_
  obtain ⟨n5, en, hrun⟩ := lt_inv hrun
  refine k_nmi en ?_
  clear en
  refine lv_istore_n (lv' := [(0, .int n5)]) hx hb dJ6_bitCount_0f7a4_47 rfl hl (by decide) rfl (fun ls hl => ?_)
  refine lv_iload_n hx hb dJ6_bitCount_0f7a4_48 rfl (lv_at hl 0 rfl) ?_
  refine lv_bipush (v := 63) hx hb dJ6_bitCount_0f7a4_49 (by decide) ?_
  refine lv_iand hx hb dJ6_bitCount_0f7a4_51 ?_
  obtain rfl := Option.some.inj hrun
  exact k_reti C0 hP hD hS () rfl rfl dJ6_bitCount_0f7a4_52
abbrev rm_X8_total : Room := { frames := 1, cells := 0, slots := 0, locals := 20 }
theorem e_X8_total : yX8_total.cls = RX8 ∧ yX8_total.cls ≠ "java/lang/invoke/MethodHandle" ∧ yX8_total.cls ≠ "java/lang/invoke/VarHandle" ∧ (parseMethodDescriptor yX8_total.desc).map (fun d => d.parameters.length) = some 2 := by decide +kernel
set_option maxHeartbeats 4000000 in
set_option maxRecDepth 100000 in
theorem c_X8_total {l : Launch} {G : k_G} {sz : Nat} {p0 : Int32} {p1 : Int32} {out : Int32} (hrun : f_X8_total p0 p1 = some out) : k_Ci l G yX8_total wsX8_total rm_X8_total [.int p0, .int p1] [] sz out (fun (_ : Unit) => []) 0 0 := by
  refine k_of (cc := cX8_total) (nL := 2) (ret := some .int) (own := RX8) (nm := "total") (by decide) rfl rfl rfl rfl ?_
  intro p e s m args below meth c ls hsz C0 hP hD hS hl
  have hl : lv_has ls 2 [(0, .int p0), (1, .int p1)] := hl
  generalize hH : s.heap = H at hP
  have hS : va_S (va_A [] sz) s.heap H [] := by rw [← hH]; exact hS
  clear hH
  generalize va_A [] sz = A at C0 hD hS ⊢
  have hx := C0.1
  have hb := C0.2.1
  have hts := C0.2.2.2.1
  have hown := C0.2.2.2.2.1
  have hK := C0.2.2.2.2.2.2.2.2.1.1
  have hNW := C0.2.2.2.2.2.2.2.2.1.2.1
  have hSF := C0.2.2.2.2.2.2.2.2.1.2.2
  rw [f_X8_total] at hrun
  refine lv_iconst (v := 2) hx hb dX8_total_0 (by decide) ?_
  refine lv_iload_n hx hb dX8_total_1 rfl (lv_at hl 0 rfl) ?_
  obtain ⟨t1, et1, hrun⟩ := bd_inv hrun
  refine k_calli0 C0 (k_runS (rest := [.int (2 : Int32)]) C0 (c_J6_bitCount_0f7a4 et1) (va_cwS 1 hts gX8_total_J6_bitCount_0f7a4 rfl rfl rfl e_J6_bitCount_0f7a4.2 ⟨Nat.le_of_ble_eq_true rfl, Nat.le_of_ble_eq_true rfl⟩) hP hD hS [] rfl (by decide) rfl hl.1 rfl (Nat.le_of_ble_eq_true rfl) dX8_total_2 ⟨Nat.le_of_ble_eq_true rfl, Nat.le_of_ble_eq_true rfl⟩) hP hS (fun H locs hP hS => ?_)
  refine lv_imul hx hb dX8_total_5 ?_
  refine lv_iload_n hx hb dX8_total_6 rfl (lv_at hl 1 rfl) ?_
  refine lv_isub hx hb dX8_total_7 ?_
  obtain rfl := Option.some.inj hrun
  exact k_reti C0 hP hD hS () rfl rfl dX8_total_8
abbrev rm_X8_closes : Room := { frames := 2, cells := 0, slots := 0, locals := 41 }
theorem e_X8_closes : yX8_closes.cls = RX8 ∧ yX8_closes.cls ≠ "java/lang/invoke/MethodHandle" ∧ yX8_closes.cls ≠ "java/lang/invoke/VarHandle" ∧ (parseMethodDescriptor yX8_closes.desc).map (fun d => d.parameters.length) = some 2 := by decide +kernel
set_option maxHeartbeats 4000000 in
set_option maxRecDepth 100000 in
theorem c_X8_closes {l : Launch} {G : k_G} {sz : Nat} {p0 : Int32} {p1 : Int32} {out : Int32} (hrun : f_X8_closes p0 p1 = some out) : k_Ci l G yX8_closes wsX8_closes rm_X8_closes [.int p0, .int p1] [] sz out (fun (_ : Unit) => []) 0 0 := by
  refine k_of (cc := cX8_closes) (nL := 2) (ret := some .boolean) (own := RX8) (nm := "closes") (by decide) rfl rfl rfl rfl ?_
  intro p e s m args below meth c ls hsz C0 hP hD hS hl
  have hl : lv_has ls 2 [(0, .int p0), (1, .int p1)] := hl
  generalize hH : s.heap = H at hP
  have hS : va_S (va_A [] sz) s.heap H [] := by rw [← hH]; exact hS
  clear hH
  generalize va_A [] sz = A at C0 hD hS ⊢
  have hx := C0.1
  have hb := C0.2.1
  have hts := C0.2.2.2.1
  have hown := C0.2.2.2.2.1
  have hK := C0.2.2.2.2.2.2.2.2.1.1
  have hNW := C0.2.2.2.2.2.2.2.2.1.2.1
  have hSF := C0.2.2.2.2.2.2.2.2.1.2.2
  rw [f_X8_closes] at hrun
  refine lv_iload_n hx hb dX8_closes_0 rfl (lv_at hl 0 rfl) ?_
  refine lv_iload_n hx hb dX8_closes_1 rfl (lv_at hl 1 rfl) ?_
  obtain ⟨t1, et1, hrun⟩ := bd_inv hrun
  refine k_calli0 C0 (k_runS (rest := []) C0 (c_X8_total et1) (va_cwS 2 hts gX8_closes_X8_total rfl rfl rfl e_X8_total.2 ⟨Nat.le_of_ble_eq_true rfl, Nat.le_of_ble_eq_true rfl⟩) hP hD hS [] rfl (by decide) rfl hl.1 rfl (Nat.le_of_ble_eq_true rfl) dX8_closes_2 ⟨Nat.le_of_ble_eq_true rfl, Nat.le_of_ble_eq_true rfl⟩) hP hS (fun H locs hP hS => ?_)
  refine lv_iconst (v := 3) hx hb dX8_closes_5 (by decide) ?_
  refine lv_irem hx hb dX8_closes_6 (by decide) ?_
  refine lv_if_ne (tgt := 14) hx hb dX8_closes_7 (by decide) (fun q2 => ?_) (fun q2 => ?_)
  · replace hrun := if_f q2 hrun
    refine lv_iconst (v := 0) hx hb dX8_closes_14 (by decide) ?_
    obtain rfl := Option.some.inj hrun
    exact k_retz C0 hP hD hS () rfl rfl rfl dX8_closes_15
  · replace hrun := if_t q2 hrun
    refine lv_iconst (v := 1) hx hb dX8_closes_10 (by decide) ?_
    refine lv_goto (tgt := 15) hx hb dX8_closes_11 (by decide) ?_
    obtain rfl := Option.some.inj hrun
    exact k_retz C0 hP hD hS () rfl rfl rfl dX8_closes_15
abbrev rm_X8_repeatsAfter : Room := { frames := 2, cells := 0, slots := 0, locals := 41 }
theorem e_X8_repeatsAfter : yX8_repeatsAfter.cls = RX8 ∧ yX8_repeatsAfter.cls ≠ "java/lang/invoke/MethodHandle" ∧ yX8_repeatsAfter.cls ≠ "java/lang/invoke/VarHandle" ∧ (parseMethodDescriptor yX8_repeatsAfter.desc).map (fun d => d.parameters.length) = some 2 := by decide +kernel
set_option maxHeartbeats 4000000 in
set_option maxRecDepth 100000 in
theorem c_X8_repeatsAfter {l : Launch} {G : k_G} {sz : Nat} {p0 : Int32} {p1 : Int32} {out : Int32} (hrun : f_X8_repeatsAfter p0 p1 = some out) : k_Ci l G yX8_repeatsAfter wsX8_repeatsAfter rm_X8_repeatsAfter [.int p0, .int p1] [] sz out (fun (_ : Unit) => []) 0 0 := by
  refine k_of (cc := cX8_repeatsAfter) (nL := 2) (ret := some .int) (own := RX8) (nm := "repeatsAfter") (by decide) rfl rfl rfl rfl ?_
  intro p e s m args below meth c ls hsz C0 hP hD hS hl
  have hl : lv_has ls 2 [(0, .int p0), (1, .int p1)] := hl
  generalize hH : s.heap = H at hP
  have hS : va_S (va_A [] sz) s.heap H [] := by rw [← hH]; exact hS
  clear hH
  generalize va_A [] sz = A at C0 hD hS ⊢
  have hx := C0.1
  have hb := C0.2.1
  have hts := C0.2.2.2.1
  have hown := C0.2.2.2.2.1
  have hK := C0.2.2.2.2.2.2.2.2.1.1
  have hNW := C0.2.2.2.2.2.2.2.2.1.2.1
  have hSF := C0.2.2.2.2.2.2.2.2.1.2.2
  rw [f_X8_repeatsAfter] at hrun
  refine lv_iload_n hx hb dX8_repeatsAfter_0 rfl (lv_at hl 0 rfl) ?_
  refine lv_iload_n hx hb dX8_repeatsAfter_1 rfl (lv_at hl 1 rfl) ?_
  obtain ⟨t1, et1, hrun⟩ := bd_inv hrun
  refine k_calli0 C0 (k_runS (rest := []) C0 (c_X8_total et1) (va_cwS 2 hts gX8_repeatsAfter_X8_total rfl rfl rfl e_X8_total.2 ⟨Nat.le_of_ble_eq_true rfl, Nat.le_of_ble_eq_true rfl⟩) hP hD hS [] rfl (by decide) rfl hl.1 rfl (Nat.le_of_ble_eq_true rfl) dX8_repeatsAfter_2 ⟨Nat.le_of_ble_eq_true rfl, Nat.le_of_ble_eq_true rfl⟩) hP hS (fun H locs hP hS => ?_)
  refine lv_iconst (v := 3) hx hb dX8_repeatsAfter_5 (by decide) ?_
  refine lv_irem hx hb dX8_repeatsAfter_6 (by decide) ?_
  refine lv_if_ne (tgt := 14) hx hb dX8_repeatsAfter_7 (by decide) (fun q2 => ?_) (fun q2 => ?_)
  · replace hrun := if_f q2 hrun
    refine lv_iconst (v := 3) hx hb dX8_repeatsAfter_14 (by decide) ?_
    refine lv_iload_n hx hb dX8_repeatsAfter_15 rfl (lv_at hl 1 rfl) ?_
    refine lv_imul hx hb dX8_repeatsAfter_16 ?_
    obtain rfl := Option.some.inj hrun
    exact k_reti C0 hP hD hS () rfl rfl dX8_repeatsAfter_17
  · replace hrun := if_t q2 hrun
    refine lv_iload_n hx hb dX8_repeatsAfter_10 rfl (lv_at hl 1 rfl) ?_
    refine lv_goto (tgt := 17) hx hb dX8_repeatsAfter_11 (by decide) ?_
    obtain rfl := Option.some.inj hrun
    exact k_reti C0 hP hD hS () rfl rfl dX8_repeatsAfter_17
abbrev rm_X8_period : Room := { frames := 1, cells := 0, slots := 0, locals := 22 }
theorem e_X8_period : yX8_period.cls = RX8 ∧ yX8_period.cls ≠ "java/lang/invoke/MethodHandle" ∧ yX8_period.cls ≠ "java/lang/invoke/VarHandle" ∧ (parseMethodDescriptor yX8_period.desc).map (fun d => d.parameters.length) = some 2 := by decide +kernel
set_option maxHeartbeats 4000000 in
set_option maxRecDepth 100000 in
theorem t_X8_period_8 {l : Launch} {G : k_G} {p : Program} {e : Env} {s : State} {m : MethodId} {args : Array Value} {below : List Frame} {meth : Method} {c : Code} {A : Nat → Prop} {out : Int32} (C0 : k_C G p s m args meth c A cX8_period RX8 wsX8_period 4 (some .int) "period") : ∀ (n : Nat) (x0 : Int32) (x1 : Int32) (x2 : Int32) (x3 : Int32) (H : Heap) (locs : List Loc) (ls : Array Slot), va_P G.1 vwCl [] H → va_D A [] → va_S A s.heap H locs → lv_has ls 4 [(0, .int x0), (1, .int x1), (2, .int x2), (3, .int x3)] → f_X8_period_8 n x0 x1 x2 x3 = some out → W p l e rm_X8_period s m args below meth c H locs 0 0 (MQ below (k_Qi G A out (fun (_ : Unit) => [])) args s 0 0 A) (F0 m 8 ls []) := by
  have hx := C0.1
  have hb := C0.2.1
  have hts := C0.2.2.2.1
  have hown := C0.2.2.2.2.1
  have hK := C0.2.2.2.2.2.2.2.2.1.1
  have hNW := C0.2.2.2.2.2.2.2.2.1.2.1
  have hSF := C0.2.2.2.2.2.2.2.2.1.2.2
  intro n
  induction n with
  | zero =>
    intro x0 x1 x2 x3 H locs ls hP hD hS hl hrun
    rw [f_X8_period_8] at hrun
    cases hrun
  | succ n ih =>
    intro x0 x1 x2 x3 H locs ls hP hD hS hl hrun
    rw [f_X8_period_8] at hrun
    refine lv_iload_n hx hb dX8_period_8 rfl (lv_at hl 3 rfl) ?_
    refine lv_iload_n hx hb dX8_period_9 rfl (lv_at hl 1 rfl) ?_
    refine lv_icmp_ge (tgt := 32) hx hb dX8_period_10 (by decide) (fun q1 => ?_) (fun q1 => ?_)
    · replace hrun := if_t q1 hrun
      refine lv_iload_n hx hb dX8_period_32 rfl (lv_at hl 1 rfl) ?_
      obtain rfl := Option.some.inj hrun
      exact k_reti C0 hP hD hS () rfl rfl dX8_period_33
    · replace hrun := if_f q1 hrun
      refine lv_iload_n hx hb dX8_period_13 rfl (lv_at hl 2 rfl) ?_
      refine lv_iload_n hx hb dX8_period_14 rfl (lv_at hl 0 rfl) ?_
      refine lv_icmp_ne (tgt := 20) hx hb dX8_period_15 (by decide) (fun q2 => ?_) (fun q2 => ?_)
      · replace hrun := if_f q2 hrun
        refine lv_iload_n hx hb dX8_period_20 rfl (lv_at hl 2 rfl) ?_
        refine lv_iload_n hx hb dX8_period_21 rfl (lv_at hl 1 rfl) ?_
        obtain ⟨t3, et3, hrun⟩ := bd_inv hrun
        refine k_calli0 C0 (k_runS (rest := []) C0 (c_X8_turned et3) (va_cwS 2 hts gX8_period_X8_turned rfl rfl rfl e_X8_turned.2 ⟨Nat.le_of_ble_eq_true rfl, Nat.le_of_ble_eq_true rfl⟩) hP hD hS [] rfl (by decide) rfl hl.1 rfl (Nat.le_of_ble_eq_true rfl) dX8_period_22 ⟨Nat.le_of_ble_eq_true rfl, Nat.le_of_ble_eq_true rfl⟩) hP hS (fun H locs hP hS => ?_)
        refine lv_istore_n (lv' := [(2, .int t3), (0, .int x0), (1, .int x1), (3, .int x3)]) hx hb dX8_period_25 rfl hl (by decide) rfl (fun ls hl => ?_)
        refine lv_iinc (v := x3 + 1) (lv' := [(3, .int (x3 + 1)), (2, .int t3), (0, .int x0), (1, .int x1)]) hx hb dX8_period_26 hl (k := 3) rfl rfl (by decide) rfl (fun ls hl => ?_)
        refine lv_goto (tgt := 8) hx hb dX8_period_29 (by decide) ?_
        exact ih x0 x1 t3 (x3 + 1) _ _ _ hP hD hS (lv_sub hl [2, 3, 1, 0] rfl) hrun
      · replace hrun := if_t q2 hrun
        refine lv_iload_n hx hb dX8_period_18 rfl (lv_at hl 3 rfl) ?_
        obtain rfl := Option.some.inj hrun
        exact k_reti C0 hP hD hS () rfl rfl dX8_period_19
set_option maxHeartbeats 4000000 in
set_option maxRecDepth 100000 in
theorem c_X8_period {l : Launch} {G : k_G} {sz : Nat} {p0 : Int32} {p1 : Int32} {out : Int32} (hrun : f_X8_period p0 p1 = some out) : k_Ci l G yX8_period wsX8_period rm_X8_period [.int p0, .int p1] [] sz out (fun (_ : Unit) => []) 0 0 := by
  refine k_of (cc := cX8_period) (nL := 4) (ret := some .int) (own := RX8) (nm := "period") (by decide) rfl rfl rfl rfl ?_
  intro p e s m args below meth c ls hsz C0 hP hD hS hl
  have hl : lv_has ls 4 [(0, .int p0), (1, .int p1)] := hl
  generalize hH : s.heap = H at hP
  have hS : va_S (va_A [] sz) s.heap H [] := by rw [← hH]; exact hS
  clear hH
  generalize va_A [] sz = A at C0 hD hS ⊢
  have hx := C0.1
  have hb := C0.2.1
  have hts := C0.2.2.2.1
  have hown := C0.2.2.2.2.1
  have hK := C0.2.2.2.2.2.2.2.2.1.1
  have hNW := C0.2.2.2.2.2.2.2.2.1.2.1
  have hSF := C0.2.2.2.2.2.2.2.2.1.2.2
  rw [f_X8_period] at hrun
  refine lv_iload_n hx hb dX8_period_0 rfl (lv_at hl 0 rfl) ?_
  refine lv_iload_n hx hb dX8_period_1 rfl (lv_at hl 1 rfl) ?_
  obtain ⟨t1, et1, hrun⟩ := bd_inv hrun
  refine k_calli0 C0 (k_runS (rest := []) C0 (c_X8_turned et1) (va_cwS 2 hts gX8_period_X8_turned rfl rfl rfl e_X8_turned.2 ⟨Nat.le_of_ble_eq_true rfl, Nat.le_of_ble_eq_true rfl⟩) hP hD hS [] rfl (by decide) rfl hl.1 rfl (Nat.le_of_ble_eq_true rfl) dX8_period_2 ⟨Nat.le_of_ble_eq_true rfl, Nat.le_of_ble_eq_true rfl⟩) hP hS (fun H locs hP hS => ?_)
  refine lv_istore_n (lv' := [(2, .int t1), (0, .int p0), (1, .int p1)]) hx hb dX8_period_5 rfl hl (by decide) rfl (fun ls hl => ?_)
  refine lv_iconst (v := 1) hx hb dX8_period_6 (by decide) ?_
  refine lv_istore_n (lv' := [(3, .int (1 : Int32)), (2, .int t1), (0, .int p0), (1, .int p1)]) hx hb dX8_period_7 rfl hl (by decide) rfl (fun ls hl => ?_)
  exact t_X8_period_8 C0 kFU p0 p1 t1 (1 : Int32) _ _ _ hP hD hS (lv_sub hl [2, 3, 1, 0] rfl) hrun
abbrev rm_X8_hexes : Room := { frames := 1, cells := 0, slots := 0, locals := 22 }
theorem e_X8_hexes : yX8_hexes.cls = RX8 ∧ yX8_hexes.cls ≠ "java/lang/invoke/MethodHandle" ∧ yX8_hexes.cls ≠ "java/lang/invoke/VarHandle" ∧ (parseMethodDescriptor yX8_hexes.desc).map (fun d => d.parameters.length) = some 2 := by decide +kernel
set_option maxHeartbeats 4000000 in
set_option maxRecDepth 100000 in
theorem c_X8_hexes {l : Launch} {G : k_G} {sz : Nat} {p0 : Int32} {p1 : Int32} {out : Int32} (hrun : f_X8_hexes p0 p1 = some out) : k_Ci l G yX8_hexes wsX8_hexes rm_X8_hexes [.int p0, .int p1] [] sz out (fun (_ : Unit) => []) 0 0 := by
  refine k_of (cc := cX8_hexes) (nL := 2) (ret := some .int) (own := RX8) (nm := "hexes") (by decide) rfl rfl rfl rfl ?_
  intro p e s m args below meth c ls hsz C0 hP hD hS hl
  have hl : lv_has ls 2 [(0, .int p0), (1, .int p1)] := hl
  generalize hH : s.heap = H at hP
  have hS : va_S (va_A [] sz) s.heap H [] := by rw [← hH]; exact hS
  clear hH
  generalize va_A [] sz = A at C0 hD hS ⊢
  have hx := C0.1
  have hb := C0.2.1
  have hts := C0.2.2.2.1
  have hown := C0.2.2.2.2.1
  have hK := C0.2.2.2.2.2.2.2.2.1.1
  have hNW := C0.2.2.2.2.2.2.2.2.1.2.1
  have hSF := C0.2.2.2.2.2.2.2.2.1.2.2
  rw [f_X8_hexes] at hrun
  refine lv_iload_n hx hb dX8_hexes_0 rfl (lv_at hl 0 rfl) ?_
  refine lv_iload_n hx hb dX8_hexes_1 rfl (lv_at hl 0 rfl) ?_
  refine lv_iload_n hx hb dX8_hexes_2 rfl (lv_at hl 1 rfl) ?_
  obtain ⟨t1, et1, hrun⟩ := bd_inv hrun
  refine k_calli0 C0 (k_runS (rest := [.int p0]) C0 (c_X8_turned et1) (va_cwS 2 hts gX8_hexes_X8_turned rfl rfl rfl e_X8_turned.2 ⟨Nat.le_of_ble_eq_true rfl, Nat.le_of_ble_eq_true rfl⟩) hP hD hS [] rfl (by decide) rfl hl.1 rfl (Nat.le_of_ble_eq_true rfl) dX8_hexes_3 ⟨Nat.le_of_ble_eq_true rfl, Nat.le_of_ble_eq_true rfl⟩) hP hS (fun H locs hP hS => ?_)
  refine lv_ixor hx hb dX8_hexes_6 ?_
  obtain ⟨t2, et2, hrun⟩ := bd_inv hrun
  refine k_calli0 C0 (k_runS (rest := []) C0 (c_J6_bitCount_0f7a4 et2) (va_cwS 1 hts gX8_hexes_J6_bitCount_0f7a4 rfl rfl rfl e_J6_bitCount_0f7a4.2 ⟨Nat.le_of_ble_eq_true rfl, Nat.le_of_ble_eq_true rfl⟩) hP hD hS [] rfl (by decide) rfl hl.1 rfl (Nat.le_of_ble_eq_true rfl) dX8_hexes_7 ⟨Nat.le_of_ble_eq_true rfl, Nat.le_of_ble_eq_true rfl⟩) hP hS (fun H locs hP hS => ?_)
  obtain rfl := Option.some.inj hrun
  exact k_reti C0 hP hD hS () rfl rfl dX8_hexes_10
theorem u_X8_runs_1 : (Cond.methodLink RX8 33 Lib.Math.max.name) ∈ wsX8_runs := List.mem_of_getElem? (i := 1) (by decide +kernel)
theorem u_X8_runs_2 : (Cond.static Lib.Math.max.name) ∈ wsX8_runs := List.mem_of_getElem? (i := 2) (by decide +kernel)
theorem u_X8_runs_3 : (Cond.initialized "java/lang/Math") ∈ wsX8_runs := List.mem_of_getElem? (i := 3) (by decide +kernel)
theorem u_X8_runs_4 : (Cond.code Lib.Math.max.name Lib.Math.max.code 2 (some .int)) ∈ wsX8_runs := List.mem_of_getElem? (i := 4) (by decide +kernel)
abbrev rm_X8_runs : Room := { frames := 2, cells := 0, slots := 0, locals := 43 }
theorem e_X8_runs : yX8_runs.cls = RX8 ∧ yX8_runs.cls ≠ "java/lang/invoke/MethodHandle" ∧ yX8_runs.cls ≠ "java/lang/invoke/VarHandle" ∧ (parseMethodDescriptor yX8_runs.desc).map (fun d => d.parameters.length) = some 2 := by decide +kernel
set_option maxHeartbeats 4000000 in
set_option maxRecDepth 100000 in
theorem c_X8_runs {l : Launch} {G : k_G} {sz : Nat} {p0 : Int32} {p1 : Int32} {out : Int32} (hrun : f_X8_runs p0 p1 = some out) : k_Ci l G yX8_runs wsX8_runs rm_X8_runs [.int p0, .int p1] [] sz out (fun (_ : Unit) => []) 0 0 := by
  refine k_of (cc := cX8_runs) (nL := 2) (ret := some .int) (own := RX8) (nm := "runs") (by decide) rfl rfl rfl rfl ?_
  intro p e s m args below meth c ls hsz C0 hP hD hS hl
  have hl : lv_has ls 2 [(0, .int p0), (1, .int p1)] := hl
  generalize hH : s.heap = H at hP
  have hS : va_S (va_A [] sz) s.heap H [] := by rw [← hH]; exact hS
  clear hH
  generalize va_A [] sz = A at C0 hD hS ⊢
  have hx := C0.1
  have hb := C0.2.1
  have hts := C0.2.2.2.1
  have hown := C0.2.2.2.2.1
  have hK := C0.2.2.2.2.2.2.2.2.1.1
  have hNW := C0.2.2.2.2.2.2.2.2.1.2.1
  have hSF := C0.2.2.2.2.2.2.2.2.1.2.2
  rw [f_X8_runs] at hrun
  refine lv_iconst (v := 1) hx hb dX8_runs_0 (by decide) ?_
  refine lv_iload_n hx hb dX8_runs_1 rfl (lv_at hl 0 rfl) ?_
  refine lv_iload_n hx hb dX8_runs_2 rfl (lv_at hl 1 rfl) ?_
  obtain ⟨t1, et1, hrun⟩ := bd_inv hrun
  refine k_calli0 C0 (k_runS (rest := [.int (1 : Int32)]) C0 (c_X8_hexes et1) (va_cwS 2 hts gX8_runs_X8_hexes rfl rfl rfl e_X8_hexes.2 ⟨Nat.le_of_ble_eq_true rfl, Nat.le_of_ble_eq_true rfl⟩) hP hD hS [] rfl (by decide) rfl hl.1 rfl (Nat.le_of_ble_eq_true rfl) dX8_runs_3 ⟨Nat.le_of_ble_eq_true rfl, Nat.le_of_ble_eq_true rfl⟩) hP hS (fun H locs hP hS => ?_)
  refine va_mmax hx hb (C0.2.2.2.2.2.2.1.trans hl.1.symm) hown (hts _ u_X8_runs_1) (hts _ u_X8_runs_2) (hts _ u_X8_runs_3) (hts _ u_X8_runs_4) (Nat.le_of_ble_eq_true rfl) (Nat.le_of_ble_eq_true rfl) (Nat.le_of_ble_eq_true rfl) (Nat.le_of_ble_eq_true rfl) dX8_runs_6 ?_
  obtain rfl := Option.some.inj hrun
  exact k_reti C0 hP hD hS () rfl rfl dX8_runs_9
abbrev rm_X8_beginsRun : Room := { frames := 1, cells := 0, slots := 0, locals := 21 }
theorem e_X8_beginsRun : yX8_beginsRun.cls = RX8 ∧ yX8_beginsRun.cls ≠ "java/lang/invoke/MethodHandle" ∧ yX8_beginsRun.cls ≠ "java/lang/invoke/VarHandle" ∧ (parseMethodDescriptor yX8_beginsRun.desc).map (fun d => d.parameters.length) = some 2 := by decide +kernel
set_option maxHeartbeats 4000000 in
set_option maxRecDepth 100000 in
theorem t_X8_beginsRun_16 {l : Launch} {G : k_G} {p : Program} {e : Env} {s : State} {m : MethodId} {args : Array Value} {below : List Frame} {meth : Method} {c : Code} {A : Nat → Prop} {out : Int32} (C0 : k_C G p s m args meth c A cX8_beginsRun RX8 wsX8_beginsRun 2 (some .boolean) "beginsRun") : ∀ (s0 : Int32) (s1 : Int32) (H : Heap) (locs : List Loc) (ls : Array Slot), va_P G.1 vwCl [] H → va_D A [] → va_S A s.heap H locs → lv_has ls 2 [] → f_X8_beginsRun_16 s0 s1 = some out → W p l e rm_X8_beginsRun s m args below meth c H locs 0 0 (MQ below (k_Qi G A out (fun (_ : Unit) => [])) args s 0 0 A) (F0 m 16 ls [.int s1, .int s0]) := by
  have hx := C0.1
  have hb := C0.2.1
  have hts := C0.2.2.2.1
  have hown := C0.2.2.2.2.1
  have hK := C0.2.2.2.2.2.2.2.2.1.1
  have hNW := C0.2.2.2.2.2.2.2.2.1.2.1
  have hSF := C0.2.2.2.2.2.2.2.2.1.2.2
  intro s0 s1 H locs ls hP hD hS hl hrun
  rw [f_X8_beginsRun_16] at hrun
  refine lv_icmp_eq (tgt := 23) hx hb dX8_beginsRun_16 (by decide) (fun q1 => ?_) (fun q1 => ?_)
  · replace hrun := if_t q1 hrun
    refine lv_iconst (v := 0) hx hb dX8_beginsRun_23 (by decide) ?_
    obtain rfl := Option.some.inj hrun
    exact k_retz C0 hP hD hS () rfl rfl rfl dX8_beginsRun_24
  · replace hrun := if_f q1 hrun
    refine lv_iconst (v := 1) hx hb dX8_beginsRun_19 (by decide) ?_
    refine lv_goto (tgt := 24) hx hb dX8_beginsRun_20 (by decide) ?_
    obtain rfl := Option.some.inj hrun
    exact k_retz C0 hP hD hS () rfl rfl rfl dX8_beginsRun_24
set_option maxHeartbeats 4000000 in
set_option maxRecDepth 100000 in
theorem c_X8_beginsRun {l : Launch} {G : k_G} {sz : Nat} {p0 : Int32} {p1 : Int32} {out : Int32} (hrun : f_X8_beginsRun p0 p1 = some out) : k_Ci l G yX8_beginsRun wsX8_beginsRun rm_X8_beginsRun [.int p0, .int p1] [] sz out (fun (_ : Unit) => []) 0 0 := by
  refine k_of (cc := cX8_beginsRun) (nL := 2) (ret := some .boolean) (own := RX8) (nm := "beginsRun") (by decide) rfl rfl rfl rfl ?_
  intro p e s m args below meth c ls hsz C0 hP hD hS hl
  have hl : lv_has ls 2 [(0, .int p0), (1, .int p1)] := hl
  generalize hH : s.heap = H at hP
  have hS : va_S (va_A [] sz) s.heap H [] := by rw [← hH]; exact hS
  clear hH
  generalize va_A [] sz = A at C0 hD hS ⊢
  have hx := C0.1
  have hb := C0.2.1
  have hts := C0.2.2.2.1
  have hown := C0.2.2.2.2.1
  have hK := C0.2.2.2.2.2.2.2.2.1.1
  have hNW := C0.2.2.2.2.2.2.2.2.1.2.1
  have hSF := C0.2.2.2.2.2.2.2.2.1.2.2
  rw [f_X8_beginsRun] at hrun
  refine lv_iload_n hx hb dX8_beginsRun_0 rfl (lv_at hl 0 rfl) ?_
  refine lv_iload_n hx hb dX8_beginsRun_1 rfl (lv_at hl 1 rfl) ?_
  obtain ⟨t1, et1, hrun⟩ := bd_inv hrun
  refine k_calli0 C0 (k_runS (rest := []) C0 (c_X8_startsUp et1) (va_cwS 2 hts gX8_beginsRun_X8_startsUp rfl rfl rfl e_X8_startsUp.2 ⟨Nat.le_of_ble_eq_true rfl, Nat.le_of_ble_eq_true rfl⟩) hP hD hS [] rfl (by decide) rfl hl.1 rfl (Nat.le_of_ble_eq_true rfl) dX8_beginsRun_2 ⟨Nat.le_of_ble_eq_true rfl, Nat.le_of_ble_eq_true rfl⟩) hP hS (fun H locs hP hS => ?_)
  refine lv_iload_n hx hb dX8_beginsRun_5 rfl (lv_at hl 0 rfl) ?_
  refine lv_iconst (v := 1) hx hb dX8_beginsRun_6 (by decide) ?_
  refine lv_iand hx hb dX8_beginsRun_7 ?_
  refine lv_if_eq (tgt := 15) hx hb dX8_beginsRun_8 (by decide) (fun q2 => ?_) (fun q2 => ?_)
  · replace hrun := if_t q2 hrun
    refine lv_iconst (v := 0) hx hb dX8_beginsRun_15 (by decide) ?_
    exact t_X8_beginsRun_16 C0 t1 (0 : Int32) _ _ _ hP hD hS (lv_sub hl [] rfl) hrun
  · replace hrun := if_f q2 hrun
    refine lv_iconst (v := 1) hx hb dX8_beginsRun_11 (by decide) ?_
    refine lv_goto (tgt := 16) hx hb dX8_beginsRun_12 (by decide) ?_
    exact t_X8_beginsRun_16 C0 t1 (1 : Int32) _ _ _ hP hD hS (lv_sub hl [] rfl) hrun
abbrev rm_X8_stepsLikeFirst : Room := { frames := 1, cells := 0, slots := 0, locals := 21 }
theorem e_X8_stepsLikeFirst : yX8_stepsLikeFirst.cls = RX8 ∧ yX8_stepsLikeFirst.cls ≠ "java/lang/invoke/MethodHandle" ∧ yX8_stepsLikeFirst.cls ≠ "java/lang/invoke/VarHandle" ∧ (parseMethodDescriptor yX8_stepsLikeFirst.desc).map (fun d => d.parameters.length) = some 2 := by decide +kernel
set_option maxHeartbeats 4000000 in
set_option maxRecDepth 100000 in
theorem t_X8_stepsLikeFirst_31 {l : Launch} {G : k_G} {p : Program} {e : Env} {s : State} {m : MethodId} {args : Array Value} {below : List Frame} {meth : Method} {c : Code} {A : Nat → Prop} {out : Int32} (C0 : k_C G p s m args meth c A cX8_stepsLikeFirst RX8 wsX8_stepsLikeFirst 4 (some .int) "stepsLikeFirst") (k8 : Int32 → Int32 → Int32 → Int32 → Option (Int32)) (hk8 : ∀ (x0 : Int32) (x1 : Int32) (x2 : Int32) (x3 : Int32) (H : Heap) (locs : List Loc) (ls : Array Slot), va_P G.1 vwCl [] H → va_D A [] → va_S A s.heap H locs → lv_has ls 4 [(0, .int x0), (1, .int x1), (2, .int x2), (3, .int x3)] → k8 x0 x1 x2 x3 = some out → W p l e rm_X8_stepsLikeFirst s m args below meth c H locs 0 0 (MQ below (k_Qi G A out (fun (_ : Unit) => [])) args s 0 0 A) (F0 m 8 ls [])) : ∀ (x0 : Int32) (x1 : Int32) (x2 : Int32) (x3 : Int32) (s0 : Int32) (s1 : Int32) (H : Heap) (locs : List Loc) (ls : Array Slot), va_P G.1 vwCl [] H → va_D A [] → va_S A s.heap H locs → lv_has ls 4 [(0, .int x0), (1, .int x1), (2, .int x2), (3, .int x3)] → f_X8_stepsLikeFirst_31 k8 x0 x1 x2 x3 s0 s1 = some out → W p l e rm_X8_stepsLikeFirst s m args below meth c H locs 0 0 (MQ below (k_Qi G A out (fun (_ : Unit) => [])) args s 0 0 A) (F0 m 31 ls [.int s1, .int s0]) := by
  have hx := C0.1
  have hb := C0.2.1
  have hts := C0.2.2.2.1
  have hown := C0.2.2.2.2.1
  have hK := C0.2.2.2.2.2.2.2.2.1.1
  have hNW := C0.2.2.2.2.2.2.2.2.1.2.1
  have hSF := C0.2.2.2.2.2.2.2.2.1.2.2
  intro x0 x1 x2 x3 s0 s1 H locs ls hP hD hS hl hrun
  rw [f_X8_stepsLikeFirst_31] at hrun
  refine lv_icmp_ne (tgt := 40) hx hb dX8_stepsLikeFirst_31 (by decide) (fun q1 => ?_) (fun q1 => ?_)
  · replace hrun := if_f q1 hrun
    refine lv_iload_n hx hb dX8_stepsLikeFirst_40 rfl (lv_at hl 3 rfl) ?_
    obtain rfl := Option.some.inj hrun
    exact k_reti C0 hP hD hS () rfl rfl dX8_stepsLikeFirst_41
  · replace hrun := if_t q1 hrun
    refine lv_iinc (v := x3 + 1) (lv' := [(3, .int (x3 + 1)), (0, .int x0), (1, .int x1), (2, .int x2)]) hx hb dX8_stepsLikeFirst_34 hl (k := 3) rfl rfl (by decide) rfl (fun ls hl => ?_)
    refine lv_goto (tgt := 8) hx hb dX8_stepsLikeFirst_37 (by decide) ?_
    exact hk8 x0 x1 x2 (x3 + 1) _ _ _ hP hD hS (lv_sub hl [1, 2, 3, 0] rfl) hrun
set_option maxHeartbeats 4000000 in
set_option maxRecDepth 100000 in
theorem t_X8_stepsLikeFirst_8 {l : Launch} {G : k_G} {p : Program} {e : Env} {s : State} {m : MethodId} {args : Array Value} {below : List Frame} {meth : Method} {c : Code} {A : Nat → Prop} {out : Int32} (C0 : k_C G p s m args meth c A cX8_stepsLikeFirst RX8 wsX8_stepsLikeFirst 4 (some .int) "stepsLikeFirst") : ∀ (n : Nat) (x0 : Int32) (x1 : Int32) (x2 : Int32) (x3 : Int32) (H : Heap) (locs : List Loc) (ls : Array Slot), va_P G.1 vwCl [] H → va_D A [] → va_S A s.heap H locs → lv_has ls 4 [(0, .int x0), (1, .int x1), (2, .int x2), (3, .int x3)] → f_X8_stepsLikeFirst_8 n x0 x1 x2 x3 = some out → W p l e rm_X8_stepsLikeFirst s m args below meth c H locs 0 0 (MQ below (k_Qi G A out (fun (_ : Unit) => [])) args s 0 0 A) (F0 m 8 ls []) := by
  have hx := C0.1
  have hb := C0.2.1
  have hts := C0.2.2.2.1
  have hown := C0.2.2.2.2.1
  have hK := C0.2.2.2.2.2.2.2.2.1.1
  have hNW := C0.2.2.2.2.2.2.2.2.1.2.1
  have hSF := C0.2.2.2.2.2.2.2.2.1.2.2
  intro n
  induction n with
  | zero =>
    intro x0 x1 x2 x3 H locs ls hP hD hS hl hrun
    rw [f_X8_stepsLikeFirst_8] at hrun
    cases hrun
  | succ n ih =>
    intro x0 x1 x2 x3 H locs ls hP hD hS hl hrun
    rw [f_X8_stepsLikeFirst_8] at hrun
    refine lv_iload_n hx hb dX8_stepsLikeFirst_8 rfl (lv_at hl 3 rfl) ?_
    refine lv_iload_n hx hb dX8_stepsLikeFirst_9 rfl (lv_at hl 1 rfl) ?_
    refine lv_icmp_ge (tgt := 40) hx hb dX8_stepsLikeFirst_10 (by decide) (fun q1 => ?_) (fun q1 => ?_)
    · replace hrun := if_t q1 hrun
      refine lv_iload_n hx hb dX8_stepsLikeFirst_40 rfl (lv_at hl 3 rfl) ?_
      obtain rfl := Option.some.inj hrun
      exact k_reti C0 hP hD hS () rfl rfl dX8_stepsLikeFirst_41
    · replace hrun := if_f q1 hrun
      refine lv_iload_n hx hb dX8_stepsLikeFirst_13 rfl (lv_at hl 0 rfl) ?_
      refine lv_iload_n hx hb dX8_stepsLikeFirst_14 rfl (lv_at hl 1 rfl) ?_
      refine lv_iconst (v := 1) hx hb dX8_stepsLikeFirst_15 (by decide) ?_
      refine lv_isub hx hb dX8_stepsLikeFirst_16 ?_
      refine lv_iload_n hx hb dX8_stepsLikeFirst_17 rfl (lv_at hl 3 rfl) ?_
      refine lv_isub hx hb dX8_stepsLikeFirst_18 ?_
      refine lv_ishr hx hb dX8_stepsLikeFirst_19 ?_
      refine lv_iconst (v := 1) hx hb dX8_stepsLikeFirst_20 (by decide) ?_
      refine lv_iand hx hb dX8_stepsLikeFirst_21 ?_
      refine lv_iload_n hx hb dX8_stepsLikeFirst_22 rfl (lv_at hl 2 rfl) ?_
      refine lv_if_eq (tgt := 30) hx hb dX8_stepsLikeFirst_23 (by decide) (fun q2 => ?_) (fun q2 => ?_)
      · replace hrun := if_t q2 hrun
        refine lv_iconst (v := 0) hx hb dX8_stepsLikeFirst_30 (by decide) ?_
        exact t_X8_stepsLikeFirst_31 C0 (fun x0 x1 x2 x3 => f_X8_stepsLikeFirst_8 n x0 x1 x2 x3) ih x0 x1 x2 x3 ((x0 >>> (((x1 - (1 : Int32)) - x3) &&& 31)) &&& (1 : Int32)) (0 : Int32) _ _ _ hP hD hS hl hrun
      · replace hrun := if_f q2 hrun
        refine lv_iconst (v := 1) hx hb dX8_stepsLikeFirst_26 (by decide) ?_
        refine lv_goto (tgt := 31) hx hb dX8_stepsLikeFirst_27 (by decide) ?_
        exact t_X8_stepsLikeFirst_31 C0 (fun x0 x1 x2 x3 => f_X8_stepsLikeFirst_8 n x0 x1 x2 x3) ih x0 x1 x2 x3 ((x0 >>> (((x1 - (1 : Int32)) - x3) &&& 31)) &&& (1 : Int32)) (1 : Int32) _ _ _ hP hD hS hl hrun
set_option maxHeartbeats 4000000 in
set_option maxRecDepth 100000 in
theorem c_X8_stepsLikeFirst {l : Launch} {G : k_G} {sz : Nat} {p0 : Int32} {p1 : Int32} {out : Int32} (hrun : f_X8_stepsLikeFirst p0 p1 = some out) : k_Ci l G yX8_stepsLikeFirst wsX8_stepsLikeFirst rm_X8_stepsLikeFirst [.int p0, .int p1] [] sz out (fun (_ : Unit) => []) 0 0 := by
  refine k_of (cc := cX8_stepsLikeFirst) (nL := 4) (ret := some .int) (own := RX8) (nm := "stepsLikeFirst") (by decide) rfl rfl rfl rfl ?_
  intro p e s m args below meth c ls hsz C0 hP hD hS hl
  have hl : lv_has ls 4 [(0, .int p0), (1, .int p1)] := hl
  generalize hH : s.heap = H at hP
  have hS : va_S (va_A [] sz) s.heap H [] := by rw [← hH]; exact hS
  clear hH
  generalize va_A [] sz = A at C0 hD hS ⊢
  have hx := C0.1
  have hb := C0.2.1
  have hts := C0.2.2.2.1
  have hown := C0.2.2.2.2.1
  have hK := C0.2.2.2.2.2.2.2.2.1.1
  have hNW := C0.2.2.2.2.2.2.2.2.1.2.1
  have hSF := C0.2.2.2.2.2.2.2.2.1.2.2
  rw [f_X8_stepsLikeFirst] at hrun
  refine lv_iload_n hx hb dX8_stepsLikeFirst_0 rfl (lv_at hl 0 rfl) ?_
  refine lv_iload_n hx hb dX8_stepsLikeFirst_1 rfl (lv_at hl 1 rfl) ?_
  obtain ⟨t1, et1, hrun⟩ := bd_inv hrun
  refine k_calli0 C0 (k_runS (rest := []) C0 (c_X8_startsUp et1) (va_cwS 2 hts gX8_stepsLikeFirst_X8_startsUp rfl rfl rfl e_X8_startsUp.2 ⟨Nat.le_of_ble_eq_true rfl, Nat.le_of_ble_eq_true rfl⟩) hP hD hS [] rfl (by decide) rfl hl.1 rfl (Nat.le_of_ble_eq_true rfl) dX8_stepsLikeFirst_2 ⟨Nat.le_of_ble_eq_true rfl, Nat.le_of_ble_eq_true rfl⟩) hP hS (fun H locs hP hS => ?_)
  refine lv_istore_n (lv' := [(2, .int t1), (0, .int p0), (1, .int p1)]) hx hb dX8_stepsLikeFirst_5 rfl hl (by decide) rfl (fun ls hl => ?_)
  refine lv_iconst (v := 1) hx hb dX8_stepsLikeFirst_6 (by decide) ?_
  refine lv_istore_n (lv' := [(3, .int (1 : Int32)), (2, .int t1), (0, .int p0), (1, .int p1)]) hx hb dX8_stepsLikeFirst_7 rfl hl (by decide) rfl (fun ls hl => ?_)
  exact t_X8_stepsLikeFirst_8 C0 kFU p0 p1 t1 (1 : Int32) _ _ _ hP hD hS (lv_sub hl [2, 3, 1, 0] rfl) hrun
abbrev rm_X8_runLength : Room := { frames := 2, cells := 0, slots := 0, locals := 44 }
theorem e_X8_runLength : yX8_runLength.cls = RX8 ∧ yX8_runLength.cls ≠ "java/lang/invoke/MethodHandle" ∧ yX8_runLength.cls ≠ "java/lang/invoke/VarHandle" ∧ (parseMethodDescriptor yX8_runLength.desc).map (fun d => d.parameters.length) = some 3 := by decide +kernel
set_option maxHeartbeats 4000000 in
set_option maxRecDepth 100000 in
theorem t_X8_runLength_48 {l : Launch} {G : k_G} {p : Program} {e : Env} {s : State} {m : MethodId} {args : Array Value} {below : List Frame} {meth : Method} {c : Code} {A : Nat → Prop} {out : Int32} (C0 : k_C G p s m args meth c A cX8_runLength RX8 wsX8_runLength 6 (some .int) "runLength") (k18 : Int32 → Int32 → Int32 → Int32 → Int32 → Option (Int32)) (hk18 : ∀ (x1 : Int32) (x2 : Int32) (x3 : Int32) (x4 : Int32) (x5 : Int32) (H : Heap) (locs : List Loc) (ls : Array Slot), va_P G.1 vwCl [] H → va_D A [] → va_S A s.heap H locs → lv_has ls 6 [(1, .int x1), (2, .int x2), (3, .int x3), (4, .int x4), (5, .int x5)] → k18 x1 x2 x3 x4 x5 = some out → W p l e rm_X8_runLength s m args below meth c H locs 0 0 (MQ below (k_Qi G A out (fun (_ : Unit) => [])) args s 0 0 A) (F0 m 18 ls [])) : ∀ (x1 : Int32) (x2 : Int32) (x3 : Int32) (x4 : Int32) (x5 : Int32) (H : Heap) (locs : List Loc) (ls : Array Slot), va_P G.1 vwCl [] H → va_D A [] → va_S A s.heap H locs → lv_has ls 6 [(1, .int x1), (2, .int x2), (3, .int x3), (4, .int x4), (5, .int x5)] → f_X8_runLength_48 k18 x1 x2 x3 x4 x5 = some out → W p l e rm_X8_runLength s m args below meth c H locs 0 0 (MQ below (k_Qi G A out (fun (_ : Unit) => [])) args s 0 0 A) (F0 m 48 ls []) := by
  have hx := C0.1
  have hb := C0.2.1
  have hts := C0.2.2.2.1
  have hown := C0.2.2.2.2.1
  have hK := C0.2.2.2.2.2.2.2.2.1.1
  have hNW := C0.2.2.2.2.2.2.2.2.1.2.1
  have hSF := C0.2.2.2.2.2.2.2.2.1.2.2
  intro x1 x2 x3 x4 x5 H locs ls hP hD hS hl hrun
  rw [f_X8_runLength_48] at hrun
  refine lv_iload hx hb dX8_runLength_48 (lv_at hl 3 rfl) ?_
  refine lv_iload_n hx hb dX8_runLength_50 rfl (lv_at hl 0 rfl) ?_
  obtain ⟨t1, et1, hrun⟩ := bd_inv hrun
  refine k_calli0 C0 (k_runS (rest := []) C0 (c_X8_turned et1) (va_cwS 2 hts gX8_runLength_X8_turned rfl rfl rfl e_X8_turned.2 ⟨Nat.le_of_ble_eq_true rfl, Nat.le_of_ble_eq_true rfl⟩) hP hD hS [] rfl (by decide) rfl hl.1 rfl (Nat.le_of_ble_eq_true rfl) dX8_runLength_51 ⟨Nat.le_of_ble_eq_true rfl, Nat.le_of_ble_eq_true rfl⟩) hP hS (fun H locs hP hS => ?_)
  refine lv_istore (lv' := [(4, .int t1), (1, .int x1), (2, .int x2), (3, .int x3), (5, .int x5)]) hx hb dX8_runLength_54 hl (by decide) rfl (fun ls hl => ?_)
  refine lv_iinc (v := x5 + 1) (lv' := [(5, .int (x5 + 1)), (4, .int t1), (1, .int x1), (2, .int x2), (3, .int x3)]) hx hb dX8_runLength_56 hl (k := 4) rfl rfl (by decide) rfl (fun ls hl => ?_)
  refine lv_goto (tgt := 18) hx hb dX8_runLength_59 (by decide) ?_
  exact hk18 x1 x2 x3 t1 (x5 + 1) _ _ _ hP hD hS (lv_sub hl [2, 3, 4, 1, 0] rfl) hrun
set_option maxHeartbeats 4000000 in
set_option maxRecDepth 100000 in
theorem t_X8_runLength_18 {l : Launch} {G : k_G} {p : Program} {e : Env} {s : State} {m : MethodId} {args : Array Value} {below : List Frame} {meth : Method} {c : Code} {A : Nat → Prop} {out : Int32} (C0 : k_C G p s m args meth c A cX8_runLength RX8 wsX8_runLength 6 (some .int) "runLength") : ∀ (n : Nat) (x1 : Int32) (x2 : Int32) (x3 : Int32) (x4 : Int32) (x5 : Int32) (H : Heap) (locs : List Loc) (ls : Array Slot), va_P G.1 vwCl [] H → va_D A [] → va_S A s.heap H locs → lv_has ls 6 [(1, .int x1), (2, .int x2), (3, .int x3), (4, .int x4), (5, .int x5)] → f_X8_runLength_18 n x1 x2 x3 x4 x5 = some out → W p l e rm_X8_runLength s m args below meth c H locs 0 0 (MQ below (k_Qi G A out (fun (_ : Unit) => [])) args s 0 0 A) (F0 m 18 ls []) := by
  have hx := C0.1
  have hb := C0.2.1
  have hts := C0.2.2.2.1
  have hown := C0.2.2.2.2.1
  have hK := C0.2.2.2.2.2.2.2.2.1.1
  have hNW := C0.2.2.2.2.2.2.2.2.1.2.1
  have hSF := C0.2.2.2.2.2.2.2.2.1.2.2
  intro n
  induction n with
  | zero =>
    intro x1 x2 x3 x4 x5 H locs ls hP hD hS hl hrun
    rw [f_X8_runLength_18] at hrun
    cases hrun
  | succ n ih =>
    intro x1 x2 x3 x4 x5 H locs ls hP hD hS hl hrun
    rw [f_X8_runLength_18] at hrun
    refine lv_iload hx hb dX8_runLength_18 (lv_at hl 4 rfl) ?_
    refine lv_iload_n hx hb dX8_runLength_20 rfl (lv_at hl 0 rfl) ?_
    refine lv_icmp_ge (tgt := 62) hx hb dX8_runLength_21 (by decide) (fun q1 => ?_) (fun q1 => ?_)
    · replace hrun := if_t q1 hrun
      refine lv_iconst (v := -1) hx hb dX8_runLength_62 (by decide) ?_
      obtain rfl := Option.some.inj hrun
      exact k_reti C0 hP hD hS () rfl rfl dX8_runLength_63
    · replace hrun := if_f q1 hrun
      refine lv_iload hx hb dX8_runLength_24 (lv_at hl 3 rfl) ?_
      refine lv_iload_n hx hb dX8_runLength_26 rfl (lv_at hl 0 rfl) ?_
      obtain ⟨t2, et2, hrun⟩ := bd_inv hrun
      refine k_calli0 C0 (k_runS (rest := []) C0 (c_X8_beginsRun et2) (va_cwS 2 hts gX8_runLength_X8_beginsRun rfl rfl rfl e_X8_beginsRun.2 ⟨Nat.le_of_ble_eq_true rfl, Nat.le_of_ble_eq_true rfl⟩) hP hD hS [] rfl (by decide) rfl hl.1 rfl (Nat.le_of_ble_eq_true rfl) dX8_runLength_27 ⟨Nat.le_of_ble_eq_true rfl, Nat.le_of_ble_eq_true rfl⟩) hP hS (fun H locs hP hS => ?_)
      refine lv_if_eq (tgt := 48) hx hb dX8_runLength_30 (by decide) (fun q3 => ?_) (fun q3 => ?_)
      · replace hrun := if_t q3 hrun
        exact t_X8_runLength_48 C0 (fun x1 x2 x3 x4 x5 => f_X8_runLength_18 n x1 x2 x3 x4 x5) ih x1 x2 x3 x4 x5 _ _ _ hP hD hS hl hrun
      · replace hrun := if_f q3 hrun
        refine lv_iload_n hx hb dX8_runLength_33 rfl (lv_at hl 2 rfl) ?_
        refine lv_iload_n hx hb dX8_runLength_34 rfl (lv_at hl 1 rfl) ?_
        refine lv_icmp_ne (tgt := 45) hx hb dX8_runLength_35 (by decide) (fun q4 => ?_) (fun q4 => ?_)
        · replace hrun := if_f q4 hrun
          refine lv_iinc (v := x3 + 1) (lv' := [(3, .int (x3 + 1)), (1, .int x1), (2, .int x2), (4, .int x4), (5, .int x5)]) hx hb dX8_runLength_45 hl (k := 2) rfl rfl (by decide) rfl (fun ls hl => ?_)
          exact t_X8_runLength_48 C0 (fun x1 x2 x3 x4 x5 => f_X8_runLength_18 n x1 x2 x3 x4 x5) ih x1 x2 (x3 + 1) x4 x5 _ _ _ hP hD hS (lv_sub hl [1, 2, 0, 3, 4] rfl) hrun
        · replace hrun := if_t q4 hrun
          refine lv_iload hx hb dX8_runLength_38 (lv_at hl 3 rfl) ?_
          refine lv_iload_n hx hb dX8_runLength_40 rfl (lv_at hl 0 rfl) ?_
          obtain ⟨t5, et5, hrun⟩ := bd_inv hrun
          refine k_calli0 C0 (k_runS (rest := []) C0 (c_X8_stepsLikeFirst et5) (va_cwS 2 hts gX8_runLength_X8_stepsLikeFirst rfl rfl rfl e_X8_stepsLikeFirst.2 ⟨Nat.le_of_ble_eq_true rfl, Nat.le_of_ble_eq_true rfl⟩) hP hD hS [] rfl (by decide) rfl hl.1 rfl (Nat.le_of_ble_eq_true rfl) dX8_runLength_41 ⟨Nat.le_of_ble_eq_true rfl, Nat.le_of_ble_eq_true rfl⟩) hP hS (fun H locs hP hS => ?_)
          obtain rfl := Option.some.inj hrun
          exact k_reti C0 hP hD hS () rfl rfl dX8_runLength_44
set_option maxHeartbeats 4000000 in
set_option maxRecDepth 100000 in
theorem c_X8_runLength {l : Launch} {G : k_G} {sz : Nat} {p0 : Int32} {p1 : Int32} {p2 : Int32} {out : Int32} (hrun : f_X8_runLength p0 p1 p2 = some out) : k_Ci l G yX8_runLength wsX8_runLength rm_X8_runLength [.int p0, .int p1, .int p2] [] sz out (fun (_ : Unit) => []) 0 0 := by
  refine k_of (cc := cX8_runLength) (nL := 6) (ret := some .int) (own := RX8) (nm := "runLength") (by decide) rfl rfl rfl rfl ?_
  intro p e s m args below meth c ls hsz C0 hP hD hS hl
  have hl : lv_has ls 6 [(0, .int p0), (1, .int p1), (2, .int p2)] := hl
  generalize hH : s.heap = H at hP
  have hS : va_S (va_A [] sz) s.heap H [] := by rw [← hH]; exact hS
  clear hH
  generalize va_A [] sz = A at C0 hD hS ⊢
  have hx := C0.1
  have hb := C0.2.1
  have hts := C0.2.2.2.1
  have hown := C0.2.2.2.2.1
  have hK := C0.2.2.2.2.2.2.2.2.1.1
  have hNW := C0.2.2.2.2.2.2.2.2.1.2.1
  have hSF := C0.2.2.2.2.2.2.2.2.1.2.2
  rw [f_X8_runLength] at hrun
  refine lv_iload_n hx hb dX8_runLength_0 rfl (lv_at hl 0 rfl) ?_
  refine lv_iload_n hx hb dX8_runLength_1 rfl (lv_at hl 1 rfl) ?_
  obtain ⟨t1, et1, hrun⟩ := bd_inv hrun
  refine k_calli0 C0 (k_runS (rest := []) C0 (c_X8_hexes et1) (va_cwS 2 hts gX8_runLength_X8_hexes rfl rfl rfl e_X8_hexes.2 ⟨Nat.le_of_ble_eq_true rfl, Nat.le_of_ble_eq_true rfl⟩) hP hD hS [] rfl (by decide) rfl hl.1 rfl (Nat.le_of_ble_eq_true rfl) dX8_runLength_2 ⟨Nat.le_of_ble_eq_true rfl, Nat.le_of_ble_eq_true rfl⟩) hP hS (fun H locs hP hS => ?_)
  refine lv_if_ne (tgt := 10) hx hb dX8_runLength_5 (by decide) (fun q2 => ?_) (fun q2 => ?_)
  · replace hrun := if_f q2 hrun
    refine lv_iconst (v := 0) hx hb dX8_runLength_10 (by decide) ?_
    refine lv_istore_n (lv' := [(3, .int (0 : Int32)), (0, .int p0), (1, .int p1), (2, .int p2)]) hx hb dX8_runLength_11 rfl hl (by decide) rfl (fun ls hl => ?_)
    refine lv_iload_n hx hb dX8_runLength_12 rfl (lv_at hl 1 rfl) ?_
    refine lv_istore (lv' := [(4, .int p0), (3, .int (0 : Int32)), (0, .int p0), (1, .int p1), (2, .int p2)]) hx hb dX8_runLength_13 hl (by decide) rfl (fun ls hl => ?_)
    refine lv_iconst (v := 0) hx hb dX8_runLength_15 (by decide) ?_
    refine lv_istore (lv' := [(5, .int (0 : Int32)), (4, .int p0), (3, .int (0 : Int32)), (0, .int p0), (1, .int p1), (2, .int p2)]) hx hb dX8_runLength_16 hl (by decide) rfl (fun ls hl => ?_)
    exact t_X8_runLength_18 C0 kFU p1 p2 (0 : Int32) p0 (0 : Int32) _ _ _ hP hD hS (lv_sub hl [4, 5, 2, 1, 0] rfl) hrun
  · replace hrun := if_t q2 hrun
    refine lv_iload_n hx hb dX8_runLength_8 rfl (lv_at hl 1 rfl) ?_
    obtain rfl := Option.some.inj hrun
    exact k_reti C0 hP hD hS () rfl rfl dX8_runLength_9
abbrev rm_X8_letterBehind : Room := { frames := 0, cells := 0, slots := 0, locals := 0 }
theorem e_X8_letterBehind : yX8_letterBehind.cls = RX8 ∧ yX8_letterBehind.cls ≠ "java/lang/invoke/MethodHandle" ∧ yX8_letterBehind.cls ≠ "java/lang/invoke/VarHandle" ∧ (parseMethodDescriptor yX8_letterBehind.desc).map (fun d => d.parameters.length) = some 2 := by decide +kernel
set_option maxHeartbeats 4000000 in
set_option maxRecDepth 100000 in
theorem c_X8_letterBehind {l : Launch} {G : k_G} {sz : Nat} {p0 : Int32} {p1 : Int32} {out : Int32} (hrun : f_X8_letterBehind p0 p1 = some out) : k_Ci l G yX8_letterBehind wsX8_letterBehind rm_X8_letterBehind [.int p0, .int p1] [] sz out (fun (_ : Unit) => []) 0 0 := by
  refine k_of (cc := cX8_letterBehind) (nL := 2) (ret := some .int) (own := RX8) (nm := "letterBehind") (by decide) rfl rfl rfl rfl ?_
  intro p e s m args below meth c ls hsz C0 hP hD hS hl
  have hl : lv_has ls 2 [(0, .int p0), (1, .int p1)] := hl
  generalize hH : s.heap = H at hP
  have hS : va_S (va_A [] sz) s.heap H [] := by rw [← hH]; exact hS
  clear hH
  generalize va_A [] sz = A at C0 hD hS ⊢
  have hx := C0.1
  have hb := C0.2.1
  have hts := C0.2.2.2.1
  have hown := C0.2.2.2.2.1
  have hK := C0.2.2.2.2.2.2.2.2.1.1
  have hNW := C0.2.2.2.2.2.2.2.2.1.2.1
  have hSF := C0.2.2.2.2.2.2.2.2.1.2.2
  rw [f_X8_letterBehind] at hrun
  refine lv_iload_n hx hb dX8_letterBehind_0 rfl (lv_at hl 0 rfl) ?_
  refine lv_iload_n hx hb dX8_letterBehind_1 rfl (lv_at hl 1 rfl) ?_
  refine lv_if_eq (tgt := 9) hx hb dX8_letterBehind_2 (by decide) (fun q1 => ?_) (fun q1 => ?_)
  · replace hrun := if_t q1 hrun
    refine lv_iconst (v := 2) hx hb dX8_letterBehind_9 (by decide) ?_
    refine lv_iadd hx hb dX8_letterBehind_10 ?_
    refine lv_iconst (v := 3) hx hb dX8_letterBehind_11 (by decide) ?_
    refine lv_irem hx hb dX8_letterBehind_12 (by decide) ?_
    obtain rfl := Option.some.inj hrun
    exact k_reti C0 hP hD hS () rfl rfl dX8_letterBehind_13
  · replace hrun := if_f q1 hrun
    refine lv_iconst (v := 1) hx hb dX8_letterBehind_5 (by decide) ?_
    refine lv_goto (tgt := 10) hx hb dX8_letterBehind_6 (by decide) ?_
    refine lv_iadd hx hb dX8_letterBehind_10 ?_
    refine lv_iconst (v := 3) hx hb dX8_letterBehind_11 (by decide) ?_
    refine lv_irem hx hb dX8_letterBehind_12 (by decide) ?_
    obtain rfl := Option.some.inj hrun
    exact k_reti C0 hP hD hS () rfl rfl dX8_letterBehind_13
abbrev rm_X8_letterAt : Room := { frames := 1, cells := 0, slots := 0, locals := 22 }
theorem e_X8_letterAt : yX8_letterAt.cls = RX8 ∧ yX8_letterAt.cls ≠ "java/lang/invoke/MethodHandle" ∧ yX8_letterAt.cls ≠ "java/lang/invoke/VarHandle" ∧ (parseMethodDescriptor yX8_letterAt.desc).map (fun d => d.parameters.length) = some 3 := by decide +kernel
set_option maxHeartbeats 4000000 in
set_option maxRecDepth 100000 in
theorem t_X8_letterAt_8 {l : Launch} {G : k_G} {p : Program} {e : Env} {s : State} {m : MethodId} {args : Array Value} {below : List Frame} {meth : Method} {c : Code} {A : Nat → Prop} {out : Int32} (C0 : k_C G p s m args meth c A cX8_letterAt RX8 wsX8_letterAt 6 (some .int) "letterAt") : ∀ (n : Nat) (x1 : Int32) (x2 : Int32) (x3 : Int32) (x4 : Int32) (x5 : Int32) (H : Heap) (locs : List Loc) (ls : Array Slot), va_P G.1 vwCl [] H → va_D A [] → va_S A s.heap H locs → lv_has ls 6 [(1, .int x1), (2, .int x2), (3, .int x3), (4, .int x4), (5, .int x5)] → f_X8_letterAt_8 n x1 x2 x3 x4 x5 = some out → W p l e rm_X8_letterAt s m args below meth c H locs 0 0 (MQ below (k_Qi G A out (fun (_ : Unit) => [])) args s 0 0 A) (F0 m 8 ls []) := by
  have hx := C0.1
  have hb := C0.2.1
  have hts := C0.2.2.2.1
  have hown := C0.2.2.2.2.1
  have hK := C0.2.2.2.2.2.2.2.2.1.1
  have hNW := C0.2.2.2.2.2.2.2.2.1.2.1
  have hSF := C0.2.2.2.2.2.2.2.2.1.2.2
  intro n
  induction n with
  | zero =>
    intro x1 x2 x3 x4 x5 H locs ls hP hD hS hl hrun
    rw [f_X8_letterAt_8] at hrun
    cases hrun
  | succ n ih =>
    intro x1 x2 x3 x4 x5 H locs ls hP hD hS hl hrun
    rw [f_X8_letterAt_8] at hrun
    refine lv_iload hx hb dX8_letterAt_8 (lv_at hl 4 rfl) ?_
    refine lv_iload_n hx hb dX8_letterAt_10 rfl (lv_at hl 1 rfl) ?_
    refine lv_icmp_ge (tgt := 39) hx hb dX8_letterAt_11 (by decide) (fun q1 => ?_) (fun q1 => ?_)
    · replace hrun := if_t q1 hrun
      refine lv_iload_n hx hb dX8_letterAt_39 rfl (lv_at hl 2 rfl) ?_
      obtain rfl := Option.some.inj hrun
      exact k_reti C0 hP hD hS () rfl rfl dX8_letterAt_40
    · replace hrun := if_f q1 hrun
      refine lv_iload_n hx hb dX8_letterAt_14 rfl (lv_at hl 2 rfl) ?_
      refine lv_iload hx hb dX8_letterAt_15 (lv_at hl 3 rfl) ?_
      refine lv_iload_n hx hb dX8_letterAt_17 rfl (lv_at hl 0 rfl) ?_
      obtain ⟨t2, et2, hrun⟩ := bd_inv hrun
      refine k_calli0 C0 (k_runS (rest := [.int x3]) C0 (c_X8_startsUp et2) (va_cwS 2 hts gX8_letterAt_X8_startsUp rfl rfl rfl e_X8_startsUp.2 ⟨Nat.le_of_ble_eq_true rfl, Nat.le_of_ble_eq_true rfl⟩) hP hD hS [] rfl (by decide) rfl hl.1 rfl (Nat.le_of_ble_eq_true rfl) dX8_letterAt_18 ⟨Nat.le_of_ble_eq_true rfl, Nat.le_of_ble_eq_true rfl⟩) hP hS (fun H locs hP hS => ?_)
      obtain ⟨t3, et3, hrun⟩ := bd_inv hrun
      refine k_calli0 C0 (k_runS (rest := []) C0 (c_X8_letterBehind et3) (va_cwS 2 hts gX8_letterAt_X8_letterBehind rfl rfl rfl e_X8_letterBehind.2 ⟨Nat.le_of_ble_eq_true rfl, Nat.le_of_ble_eq_true rfl⟩) hP hD hS [] rfl (by decide) rfl hl.1 rfl (Nat.le_of_ble_eq_true rfl) dX8_letterAt_21 ⟨Nat.le_of_ble_eq_true rfl, Nat.le_of_ble_eq_true rfl⟩) hP hS (fun H locs hP hS => ?_)
      refine lv_istore_n (lv' := [(3, .int t3), (1, .int x1), (2, .int x2), (4, .int x4), (5, .int x5)]) hx hb dX8_letterAt_24 rfl hl (by decide) rfl (fun ls hl => ?_)
      refine lv_iload hx hb dX8_letterAt_25 (lv_at hl 3 rfl) ?_
      refine lv_iload_n hx hb dX8_letterAt_27 rfl (lv_at hl 1 rfl) ?_
      obtain ⟨t4, et4, hrun⟩ := bd_inv hrun
      refine k_calli0 C0 (k_runS (rest := []) C0 (c_X8_turned et4) (va_cwS 2 hts gX8_letterAt_X8_turned rfl rfl rfl e_X8_turned.2 ⟨Nat.le_of_ble_eq_true rfl, Nat.le_of_ble_eq_true rfl⟩) hP hD hS [] rfl (by decide) rfl hl.1 rfl (Nat.le_of_ble_eq_true rfl) dX8_letterAt_28 ⟨Nat.le_of_ble_eq_true rfl, Nat.le_of_ble_eq_true rfl⟩) hP hS (fun H locs hP hS => ?_)
      refine lv_istore (lv' := [(4, .int t4), (3, .int t3), (1, .int x1), (2, .int x2), (5, .int x5)]) hx hb dX8_letterAt_31 hl (by decide) rfl (fun ls hl => ?_)
      refine lv_iinc (v := x5 + 1) (lv' := [(5, .int (x5 + 1)), (4, .int t4), (3, .int t3), (1, .int x1), (2, .int x2)]) hx hb dX8_letterAt_33 hl (k := 4) rfl rfl (by decide) rfl (fun ls hl => ?_)
      refine lv_goto (tgt := 8) hx hb dX8_letterAt_36 (by decide) ?_
      exact ih x1 x2 t3 t4 (x5 + 1) _ _ _ hP hD hS (lv_sub hl [3, 4, 2, 1, 0] rfl) hrun
set_option maxHeartbeats 4000000 in
set_option maxRecDepth 100000 in
theorem c_X8_letterAt {l : Launch} {G : k_G} {sz : Nat} {p0 : Int32} {p1 : Int32} {p2 : Int32} {out : Int32} (hrun : f_X8_letterAt p0 p1 p2 = some out) : k_Ci l G yX8_letterAt wsX8_letterAt rm_X8_letterAt [.int p0, .int p1, .int p2] [] sz out (fun (_ : Unit) => []) 0 0 := by
  refine k_of (cc := cX8_letterAt) (nL := 6) (ret := some .int) (own := RX8) (nm := "letterAt") (by decide) rfl rfl rfl rfl ?_
  intro p e s m args below meth c ls hsz C0 hP hD hS hl
  have hl : lv_has ls 6 [(0, .int p0), (1, .int p1), (2, .int p2)] := hl
  generalize hH : s.heap = H at hP
  have hS : va_S (va_A [] sz) s.heap H [] := by rw [← hH]; exact hS
  clear hH
  generalize va_A [] sz = A at C0 hD hS ⊢
  have hx := C0.1
  have hb := C0.2.1
  have hts := C0.2.2.2.1
  have hown := C0.2.2.2.2.1
  have hK := C0.2.2.2.2.2.2.2.2.1.1
  have hNW := C0.2.2.2.2.2.2.2.2.1.2.1
  have hSF := C0.2.2.2.2.2.2.2.2.1.2.2
  rw [f_X8_letterAt] at hrun
  refine lv_iconst (v := 0) hx hb dX8_letterAt_0 (by decide) ?_
  refine lv_istore_n (lv' := [(3, .int (0 : Int32)), (0, .int p0), (1, .int p1), (2, .int p2)]) hx hb dX8_letterAt_1 rfl hl (by decide) rfl (fun ls hl => ?_)
  refine lv_iload_n hx hb dX8_letterAt_2 rfl (lv_at hl 1 rfl) ?_
  refine lv_istore (lv' := [(4, .int p0), (3, .int (0 : Int32)), (0, .int p0), (1, .int p1), (2, .int p2)]) hx hb dX8_letterAt_3 hl (by decide) rfl (fun ls hl => ?_)
  refine lv_iconst (v := 0) hx hb dX8_letterAt_5 (by decide) ?_
  refine lv_istore (lv' := [(5, .int (0 : Int32)), (4, .int p0), (3, .int (0 : Int32)), (0, .int p0), (1, .int p1), (2, .int p2)]) hx hb dX8_letterAt_6 hl (by decide) rfl (fun ls hl => ?_)
  exact t_X8_letterAt_8 C0 kFU p1 p2 (0 : Int32) p0 (0 : Int32) _ _ _ hP hD hS (lv_sub hl [4, 5, 2, 1, 0] rfl) hrun
abbrev rm_X8_layersAlike : Room := { frames := 3, cells := 0, slots := 0, locals := 62 }
theorem e_X8_layersAlike : yX8_layersAlike.cls = RX8 ∧ yX8_layersAlike.cls ≠ "java/lang/invoke/MethodHandle" ∧ yX8_layersAlike.cls ≠ "java/lang/invoke/VarHandle" ∧ (parseMethodDescriptor yX8_layersAlike.desc).map (fun d => d.parameters.length) = some 3 := by decide +kernel
set_option maxHeartbeats 4000000 in
set_option maxRecDepth 100000 in
theorem t_X8_layersAlike_50 {l : Launch} {G : k_G} {p : Program} {e : Env} {s : State} {m : MethodId} {args : Array Value} {below : List Frame} {meth : Method} {c : Code} {A : Nat → Prop} {out : Int32} (C0 : k_C G p s m args meth c A cX8_layersAlike RX8 wsX8_layersAlike 9 (some .int) "layersAlike") (k27 : Int32 → Int32 → Int32 → Int32 → Int32 → Int32 → Int32 → Int32 → Option (Int32)) (hk27 : ∀ (x0 : Int32) (x1 : Int32) (x3 : Int32) (x4 : Int32) (x5 : Int32) (x6 : Int32) (x7 : Int32) (x8 : Int32) (H : Heap) (locs : List Loc) (ls : Array Slot), va_P G.1 vwCl [] H → va_D A [] → va_S A s.heap H locs → lv_has ls 9 [(0, .int x0), (1, .int x1), (3, .int x3), (4, .int x4), (5, .int x5), (6, .int x6), (7, .int x7), (8, .int x8)] → k27 x0 x1 x3 x4 x5 x6 x7 x8 = some out → W p l e rm_X8_layersAlike s m args below meth c H locs 0 0 (MQ below (k_Qi G A out (fun (_ : Unit) => [])) args s 0 0 A) (F0 m 27 ls [])) : ∀ (x0 : Int32) (x1 : Int32) (x4 : Int32) (x5 : Int32) (x6 : Int32) (x7 : Int32) (x8 : Int32) (s0 : Int32) (s1 : Int32) (H : Heap) (locs : List Loc) (ls : Array Slot), va_P G.1 vwCl [] H → va_D A [] → va_S A s.heap H locs → lv_has ls 9 [(0, .int x0), (1, .int x1), (4, .int x4), (5, .int x5), (6, .int x6), (7, .int x7), (8, .int x8)] → f_X8_layersAlike_50 k27 x0 x1 x4 x5 x6 x7 x8 s0 s1 = some out → W p l e rm_X8_layersAlike s m args below meth c H locs 0 0 (MQ below (k_Qi G A out (fun (_ : Unit) => [])) args s 0 0 A) (F0 m 50 ls [.int s1, .int s0]) := by
  have hx := C0.1
  have hb := C0.2.1
  have hts := C0.2.2.2.1
  have hown := C0.2.2.2.2.1
  have hK := C0.2.2.2.2.2.2.2.2.1.1
  have hNW := C0.2.2.2.2.2.2.2.2.1.2.1
  have hSF := C0.2.2.2.2.2.2.2.2.1.2.2
  intro x0 x1 x4 x5 x6 x7 x8 s0 s1 H locs ls hP hD hS hl hrun
  rw [f_X8_layersAlike_50] at hrun
  refine lv_iadd hx hb dX8_layersAlike_50 ?_
  obtain ⟨n1, en, hrun⟩ := lt_inv hrun
  refine k_nmi en ?_
  clear en
  refine lv_istore_n (lv' := [(3, .int n1), (0, .int x0), (1, .int x1), (4, .int x4), (5, .int x5), (6, .int x6), (7, .int x7), (8, .int x8)]) hx hb dX8_layersAlike_51 rfl hl (by decide) rfl (fun ls hl => ?_)
  refine lv_iload hx hb dX8_layersAlike_52 (lv_at hl 3 rfl) ?_
  refine lv_iload hx hb dX8_layersAlike_54 (lv_at hl 5 rfl) ?_
  refine lv_iload_n hx hb dX8_layersAlike_56 rfl (lv_at hl 2 rfl) ?_
  obtain ⟨t2, et2, hrun⟩ := bd_inv hrun
  refine k_calli0 C0 (k_runS (rest := [.int x4]) C0 (c_X8_startsUp et2) (va_cwS 2 hts gX8_layersAlike_X8_startsUp rfl rfl rfl e_X8_startsUp.2 ⟨Nat.le_of_ble_eq_true rfl, Nat.le_of_ble_eq_true rfl⟩) hP hD hS [] rfl (by decide) rfl hl.1 rfl (Nat.le_of_ble_eq_true rfl) dX8_layersAlike_57 ⟨Nat.le_of_ble_eq_true rfl, Nat.le_of_ble_eq_true rfl⟩) hP hS (fun H locs hP hS => ?_)
  obtain ⟨t3, et3, hrun⟩ := bd_inv hrun
  refine k_calli0 C0 (k_runS (rest := []) C0 (c_X8_letterBehind et3) (va_cwS 2 hts gX8_layersAlike_X8_letterBehind rfl rfl rfl e_X8_letterBehind.2 ⟨Nat.le_of_ble_eq_true rfl, Nat.le_of_ble_eq_true rfl⟩) hP hD hS [] rfl (by decide) rfl hl.1 rfl (Nat.le_of_ble_eq_true rfl) dX8_layersAlike_60 ⟨Nat.le_of_ble_eq_true rfl, Nat.le_of_ble_eq_true rfl⟩) hP hS (fun H locs hP hS => ?_)
  refine lv_istore (lv' := [(4, .int t3), (3, .int n1), (0, .int x0), (1, .int x1), (5, .int x5), (6, .int x6), (7, .int x7), (8, .int x8)]) hx hb dX8_layersAlike_63 hl (by decide) rfl (fun ls hl => ?_)
  refine lv_iload hx hb dX8_layersAlike_65 (lv_at hl 4 rfl) ?_
  refine lv_iload hx hb dX8_layersAlike_67 (lv_at hl 6 rfl) ?_
  refine lv_iload_n hx hb dX8_layersAlike_69 rfl (lv_at hl 3 rfl) ?_
  obtain ⟨t4, et4, hrun⟩ := bd_inv hrun
  refine k_calli0 C0 (k_runS (rest := [.int x5]) C0 (c_X8_startsUp et4) (va_cwS 2 hts gX8_layersAlike_X8_startsUp rfl rfl rfl e_X8_startsUp.2 ⟨Nat.le_of_ble_eq_true rfl, Nat.le_of_ble_eq_true rfl⟩) hP hD hS [] rfl (by decide) rfl hl.1 rfl (Nat.le_of_ble_eq_true rfl) dX8_layersAlike_70 ⟨Nat.le_of_ble_eq_true rfl, Nat.le_of_ble_eq_true rfl⟩) hP hS (fun H locs hP hS => ?_)
  obtain ⟨t5, et5, hrun⟩ := bd_inv hrun
  refine k_calli0 C0 (k_runS (rest := []) C0 (c_X8_letterBehind et5) (va_cwS 2 hts gX8_layersAlike_X8_letterBehind rfl rfl rfl e_X8_letterBehind.2 ⟨Nat.le_of_ble_eq_true rfl, Nat.le_of_ble_eq_true rfl⟩) hP hD hS [] rfl (by decide) rfl hl.1 rfl (Nat.le_of_ble_eq_true rfl) dX8_layersAlike_73 ⟨Nat.le_of_ble_eq_true rfl, Nat.le_of_ble_eq_true rfl⟩) hP hS (fun H locs hP hS => ?_)
  refine lv_istore (lv' := [(5, .int t5), (4, .int t3), (3, .int n1), (0, .int x0), (1, .int x1), (6, .int x6), (7, .int x7), (8, .int x8)]) hx hb dX8_layersAlike_76 hl (by decide) rfl (fun ls hl => ?_)
  refine lv_iload hx hb dX8_layersAlike_78 (lv_at hl 5 rfl) ?_
  refine lv_iload_n hx hb dX8_layersAlike_80 rfl (lv_at hl 4 rfl) ?_
  obtain ⟨t6, et6, hrun⟩ := bd_inv hrun
  refine k_calli0 C0 (k_runS (rest := []) C0 (c_X8_turned et6) (va_cwS 2 hts gX8_layersAlike_X8_turned rfl rfl rfl e_X8_turned.2 ⟨Nat.le_of_ble_eq_true rfl, Nat.le_of_ble_eq_true rfl⟩) hP hD hS [] rfl (by decide) rfl hl.1 rfl (Nat.le_of_ble_eq_true rfl) dX8_layersAlike_81 ⟨Nat.le_of_ble_eq_true rfl, Nat.le_of_ble_eq_true rfl⟩) hP hS (fun H locs hP hS => ?_)
  refine lv_istore (lv' := [(6, .int t6), (5, .int t5), (4, .int t3), (3, .int n1), (0, .int x0), (1, .int x1), (7, .int x7), (8, .int x8)]) hx hb dX8_layersAlike_84 hl (by decide) rfl (fun ls hl => ?_)
  refine lv_iload hx hb dX8_layersAlike_86 (lv_at hl 6 rfl) ?_
  refine lv_iload_n hx hb dX8_layersAlike_88 rfl (lv_at hl 5 rfl) ?_
  obtain ⟨t7, et7, hrun⟩ := bd_inv hrun
  refine k_calli0 C0 (k_runS (rest := []) C0 (c_X8_turned et7) (va_cwS 2 hts gX8_layersAlike_X8_turned rfl rfl rfl e_X8_turned.2 ⟨Nat.le_of_ble_eq_true rfl, Nat.le_of_ble_eq_true rfl⟩) hP hD hS [] rfl (by decide) rfl hl.1 rfl (Nat.le_of_ble_eq_true rfl) dX8_layersAlike_89 ⟨Nat.le_of_ble_eq_true rfl, Nat.le_of_ble_eq_true rfl⟩) hP hS (fun H locs hP hS => ?_)
  refine lv_istore (lv' := [(7, .int t7), (6, .int t6), (5, .int t5), (4, .int t3), (3, .int n1), (0, .int x0), (1, .int x1), (8, .int x8)]) hx hb dX8_layersAlike_92 hl (by decide) rfl (fun ls hl => ?_)
  refine lv_iinc (v := x8 + 1) (lv' := [(8, .int (x8 + 1)), (7, .int t7), (6, .int t6), (5, .int t5), (4, .int t3), (3, .int n1), (0, .int x0), (1, .int x1)]) hx hb dX8_layersAlike_94 hl (k := 7) rfl rfl (by decide) rfl (fun ls hl => ?_)
  refine lv_goto (tgt := 27) hx hb dX8_layersAlike_97 (by decide) ?_
  exact hk27 x0 x1 n1 t3 t5 t6 t7 (x8 + 1) _ _ _ hP hD hS (lv_sub hl [6, 7, 5, 4, 3, 2, 1, 0] rfl) hrun
set_option maxHeartbeats 4000000 in
set_option maxRecDepth 100000 in
theorem t_X8_layersAlike_27 {l : Launch} {G : k_G} {p : Program} {e : Env} {s : State} {m : MethodId} {args : Array Value} {below : List Frame} {meth : Method} {c : Code} {A : Nat → Prop} {out : Int32} (C0 : k_C G p s m args meth c A cX8_layersAlike RX8 wsX8_layersAlike 9 (some .int) "layersAlike") : ∀ (n : Nat) (x0 : Int32) (x1 : Int32) (x3 : Int32) (x4 : Int32) (x5 : Int32) (x6 : Int32) (x7 : Int32) (x8 : Int32) (H : Heap) (locs : List Loc) (ls : Array Slot), va_P G.1 vwCl [] H → va_D A [] → va_S A s.heap H locs → lv_has ls 9 [(0, .int x0), (1, .int x1), (3, .int x3), (4, .int x4), (5, .int x5), (6, .int x6), (7, .int x7), (8, .int x8)] → f_X8_layersAlike_27 n x0 x1 x3 x4 x5 x6 x7 x8 = some out → W p l e rm_X8_layersAlike s m args below meth c H locs 0 0 (MQ below (k_Qi G A out (fun (_ : Unit) => [])) args s 0 0 A) (F0 m 27 ls []) := by
  have hx := C0.1
  have hb := C0.2.1
  have hts := C0.2.2.2.1
  have hown := C0.2.2.2.2.1
  have hK := C0.2.2.2.2.2.2.2.2.1.1
  have hNW := C0.2.2.2.2.2.2.2.2.1.2.1
  have hSF := C0.2.2.2.2.2.2.2.2.1.2.2
  intro n
  induction n with
  | zero =>
    intro x0 x1 x3 x4 x5 x6 x7 x8 H locs ls hP hD hS hl hrun
    rw [f_X8_layersAlike_27] at hrun
    cases hrun
  | succ n ih =>
    intro x0 x1 x3 x4 x5 x6 x7 x8 H locs ls hP hD hS hl hrun
    rw [f_X8_layersAlike_27] at hrun
    refine lv_iload hx hb dX8_layersAlike_27 (lv_at hl 7 rfl) ?_
    refine lv_iload_n hx hb dX8_layersAlike_29 rfl (lv_at hl 0 rfl) ?_
    refine lv_iload_n hx hb dX8_layersAlike_30 rfl (lv_at hl 1 rfl) ?_
    obtain ⟨t1, et1, hrun⟩ := bd_inv hrun
    refine k_calli0 C0 (k_runS (rest := [.int x8]) C0 (c_X8_repeatsAfter et1) (va_cwS 2 hts gX8_layersAlike_X8_repeatsAfter rfl rfl rfl e_X8_repeatsAfter.2 ⟨Nat.le_of_ble_eq_true rfl, Nat.le_of_ble_eq_true rfl⟩) hP hD hS [] rfl (by decide) rfl hl.1 rfl (Nat.le_of_ble_eq_true rfl) dX8_layersAlike_31 ⟨Nat.le_of_ble_eq_true rfl, Nat.le_of_ble_eq_true rfl⟩) hP hS (fun H locs hP hS => ?_)
    refine lv_icmp_ge (tgt := 100) hx hb dX8_layersAlike_34 (by decide) (fun q2 => ?_) (fun q2 => ?_)
    · replace hrun := if_t q2 hrun
      refine lv_iload_n hx hb dX8_layersAlike_100 rfl (lv_at hl 2 rfl) ?_
      obtain rfl := Option.some.inj hrun
      exact k_reti C0 hP hD hS () rfl rfl dX8_layersAlike_101
    · replace hrun := if_f q2 hrun
      refine lv_iload_n hx hb dX8_layersAlike_37 rfl (lv_at hl 2 rfl) ?_
      refine lv_iload hx hb dX8_layersAlike_38 (lv_at hl 3 rfl) ?_
      refine lv_iload hx hb dX8_layersAlike_40 (lv_at hl 4 rfl) ?_
      refine lv_icmp_ne (tgt := 49) hx hb dX8_layersAlike_42 (by decide) (fun q3 => ?_) (fun q3 => ?_)
      · replace hrun := if_f q3 hrun
        refine lv_iconst (v := 0) hx hb dX8_layersAlike_49 (by decide) ?_
        exact t_X8_layersAlike_50 C0 (fun x0 x1 x3 x4 x5 x6 x7 x8 => f_X8_layersAlike_27 n x0 x1 x3 x4 x5 x6 x7 x8) ih x0 x1 x4 x5 x6 x7 x8 x3 (0 : Int32) _ _ _ hP hD hS (lv_sub hl [0, 1, 3, 4, 5, 6, 7] rfl) hrun
      · replace hrun := if_t q3 hrun
        refine lv_iconst (v := 1) hx hb dX8_layersAlike_45 (by decide) ?_
        refine lv_goto (tgt := 50) hx hb dX8_layersAlike_46 (by decide) ?_
        exact t_X8_layersAlike_50 C0 (fun x0 x1 x3 x4 x5 x6 x7 x8 => f_X8_layersAlike_27 n x0 x1 x3 x4 x5 x6 x7 x8) ih x0 x1 x4 x5 x6 x7 x8 x3 (1 : Int32) _ _ _ hP hD hS (lv_sub hl [0, 1, 3, 4, 5, 6, 7] rfl) hrun
set_option maxHeartbeats 4000000 in
set_option maxRecDepth 100000 in
theorem c_X8_layersAlike {l : Launch} {G : k_G} {sz : Nat} {p0 : Int32} {p1 : Int32} {p2 : Int32} {out : Int32} (hrun : f_X8_layersAlike p0 p1 p2 = some out) : k_Ci l G yX8_layersAlike wsX8_layersAlike rm_X8_layersAlike [.int p0, .int p1, .int p2] [] sz out (fun (_ : Unit) => []) 0 0 := by
  refine k_of (cc := cX8_layersAlike) (nL := 9) (ret := some .int) (own := RX8) (nm := "layersAlike") (by decide) rfl rfl rfl rfl ?_
  intro p e s m args below meth c ls hsz C0 hP hD hS hl
  have hl : lv_has ls 9 [(0, .int p0), (1, .int p1), (2, .int p2)] := hl
  generalize hH : s.heap = H at hP
  have hS : va_S (va_A [] sz) s.heap H [] := by rw [← hH]; exact hS
  clear hH
  generalize va_A [] sz = A at C0 hD hS ⊢
  have hx := C0.1
  have hb := C0.2.1
  have hts := C0.2.2.2.1
  have hown := C0.2.2.2.2.1
  have hK := C0.2.2.2.2.2.2.2.2.1.1
  have hNW := C0.2.2.2.2.2.2.2.2.1.2.1
  have hSF := C0.2.2.2.2.2.2.2.2.1.2.2
  rw [f_X8_layersAlike] at hrun
  refine lv_iconst (v := 0) hx hb dX8_layersAlike_0 (by decide) ?_
  refine lv_istore_n (lv' := [(3, .int (0 : Int32)), (0, .int p0), (1, .int p1), (2, .int p2)]) hx hb dX8_layersAlike_1 rfl hl (by decide) rfl (fun ls hl => ?_)
  refine lv_iconst (v := 0) hx hb dX8_layersAlike_2 (by decide) ?_
  refine lv_istore (lv' := [(4, .int (0 : Int32)), (3, .int (0 : Int32)), (0, .int p0), (1, .int p1), (2, .int p2)]) hx hb dX8_layersAlike_3 hl (by decide) rfl (fun ls hl => ?_)
  refine lv_iload_n hx hb dX8_layersAlike_5 rfl (lv_at hl 2 rfl) ?_
  refine lv_iload_n hx hb dX8_layersAlike_6 rfl (lv_at hl 3 rfl) ?_
  refine lv_iload_n hx hb dX8_layersAlike_7 rfl (lv_at hl 4 rfl) ?_
  obtain ⟨t1, et1, hrun⟩ := bd_inv hrun
  refine k_calli0 C0 (k_runS (rest := []) C0 (c_X8_letterAt et1) (va_cwS 3 hts gX8_layersAlike_X8_letterAt rfl rfl rfl e_X8_letterAt.2 ⟨Nat.le_of_ble_eq_true rfl, Nat.le_of_ble_eq_true rfl⟩) hP hD hS [] rfl (by decide) rfl hl.1 rfl (Nat.le_of_ble_eq_true rfl) dX8_layersAlike_8 ⟨Nat.le_of_ble_eq_true rfl, Nat.le_of_ble_eq_true rfl⟩) hP hS (fun H locs hP hS => ?_)
  refine lv_istore (lv' := [(5, .int t1), (4, .int (0 : Int32)), (3, .int (0 : Int32)), (0, .int p0), (1, .int p1), (2, .int p2)]) hx hb dX8_layersAlike_11 hl (by decide) rfl (fun ls hl => ?_)
  refine lv_iload_n hx hb dX8_layersAlike_13 rfl (lv_at hl 3 rfl) ?_
  refine lv_istore (lv' := [(6, .int p0), (5, .int t1), (4, .int (0 : Int32)), (3, .int (0 : Int32)), (0, .int p0), (1, .int p1), (2, .int p2)]) hx hb dX8_layersAlike_14 hl (by decide) rfl (fun ls hl => ?_)
  refine lv_iload_n hx hb dX8_layersAlike_16 rfl (lv_at hl 4 rfl) ?_
  refine lv_iload_n hx hb dX8_layersAlike_17 rfl (lv_at hl 5 rfl) ?_
  refine lv_iload_n hx hb dX8_layersAlike_18 rfl (lv_at hl 6 rfl) ?_
  obtain ⟨t2, et2, hrun⟩ := bd_inv hrun
  refine k_calli0 C0 (k_runS (rest := []) C0 (c_X8_turnedBy et2) (va_cwS 3 hts gX8_layersAlike_X8_turnedBy rfl rfl rfl e_X8_turnedBy.2 ⟨Nat.le_of_ble_eq_true rfl, Nat.le_of_ble_eq_true rfl⟩) hP hD hS [] rfl (by decide) rfl hl.1 rfl (Nat.le_of_ble_eq_true rfl) dX8_layersAlike_19 ⟨Nat.le_of_ble_eq_true rfl, Nat.le_of_ble_eq_true rfl⟩) hP hS (fun H locs hP hS => ?_)
  refine lv_istore (lv' := [(7, .int t2), (6, .int p0), (5, .int t1), (4, .int (0 : Int32)), (3, .int (0 : Int32)), (0, .int p0), (1, .int p1), (2, .int p2)]) hx hb dX8_layersAlike_22 hl (by decide) rfl (fun ls hl => ?_)
  refine lv_iconst (v := 0) hx hb dX8_layersAlike_24 (by decide) ?_
  refine lv_istore (lv' := [(8, .int (0 : Int32)), (7, .int t2), (6, .int p0), (5, .int t1), (4, .int (0 : Int32)), (3, .int (0 : Int32)), (0, .int p0), (1, .int p1), (2, .int p2)]) hx hb dX8_layersAlike_25 hl (by decide) rfl (fun ls hl => ?_)
  exact t_X8_layersAlike_27 C0 kFU p0 p1 (0 : Int32) (0 : Int32) t1 p0 t2 (0 : Int32) _ _ _ hP hD hS (lv_sub hl [6, 7, 5, 4, 3, 2, 1, 0] rfl) hrun
abbrev rm_X8_allows : Room := { frames := 0, cells := 0, slots := 0, locals := 0 }
theorem e_X8_allows : yX8_allows.cls = RX8 ∧ yX8_allows.cls ≠ "java/lang/invoke/MethodHandle" ∧ yX8_allows.cls ≠ "java/lang/invoke/VarHandle" ∧ (parseMethodDescriptor yX8_allows.desc).map (fun d => d.parameters.length) = some 2 := by decide +kernel
set_option maxHeartbeats 4000000 in
set_option maxRecDepth 100000 in
theorem c_X8_allows {l : Launch} {G : k_G} {sz : Nat} {p0 : Int32} {p1 : Int32} {out : Int32} (hrun : f_X8_allows p0 p1 = some out) : k_Ci l G yX8_allows wsX8_allows rm_X8_allows [.int p0, .int p1] [] sz out (fun (_ : Unit) => []) 0 0 := by
  refine k_of (cc := cX8_allows) (nL := 2) (ret := some .boolean) (own := RX8) (nm := "allows") (by decide) rfl rfl rfl rfl ?_
  intro p e s m args below meth c ls hsz C0 hP hD hS hl
  have hl : lv_has ls 2 [(0, .int p0), (1, .int p1)] := hl
  generalize hH : s.heap = H at hP
  have hS : va_S (va_A [] sz) s.heap H [] := by rw [← hH]; exact hS
  clear hH
  generalize va_A [] sz = A at C0 hD hS ⊢
  have hx := C0.1
  have hb := C0.2.1
  have hts := C0.2.2.2.1
  have hown := C0.2.2.2.2.1
  have hK := C0.2.2.2.2.2.2.2.2.1.1
  have hNW := C0.2.2.2.2.2.2.2.2.1.2.1
  have hSF := C0.2.2.2.2.2.2.2.2.1.2.2
  rw [f_X8_allows] at hrun
  refine lv_iload_n hx hb dX8_allows_0 rfl (lv_at hl 1 rfl) ?_
  refine lv_iload_n hx hb dX8_allows_1 rfl (lv_at hl 0 rfl) ?_
  refine lv_iconst (v := -1) hx hb dX8_allows_2 (by decide) ?_
  refine lv_ixor hx hb dX8_allows_3 ?_
  refine lv_iand hx hb dX8_allows_4 ?_
  refine lv_if_ne (tgt := 12) hx hb dX8_allows_5 (by decide) (fun q1 => ?_) (fun q1 => ?_)
  · replace hrun := if_f q1 hrun
    refine lv_iconst (v := 0) hx hb dX8_allows_12 (by decide) ?_
    obtain rfl := Option.some.inj hrun
    exact k_retz C0 hP hD hS () rfl rfl rfl dX8_allows_13
  · replace hrun := if_t q1 hrun
    refine lv_iconst (v := 1) hx hb dX8_allows_8 (by decide) ?_
    refine lv_goto (tgt := 13) hx hb dX8_allows_9 (by decide) ?_
    obtain rfl := Option.some.inj hrun
    exact k_retz C0 hP hD hS () rfl rfl rfl dX8_allows_13
abbrev rm_X8_inWay : Room := { frames := 3, cells := 0, slots := 0, locals := 64 }
theorem e_X8_inWay : yX8_inWay.cls = RX8 ∧ yX8_inWay.cls ≠ "java/lang/invoke/MethodHandle" ∧ yX8_inWay.cls ≠ "java/lang/invoke/VarHandle" ∧ (parseMethodDescriptor yX8_inWay.desc).map (fun d => d.parameters.length) = some 3 := by decide +kernel
set_option maxHeartbeats 4000000 in
set_option maxRecDepth 100000 in
theorem t_X8_inWay_15 {l : Launch} {G : k_G} {p : Program} {e : Env} {s : State} {m : MethodId} {args : Array Value} {below : List Frame} {meth : Method} {c : Code} {A : Nat → Prop} {out : Int32} (C0 : k_C G p s m args meth c A cX8_inWay RX8 wsX8_inWay 4 (some .int) "inWay") : ∀ (x1 : Int32) (x2 : Int32) (s0 : Int32) (H : Heap) (locs : List Loc) (ls : Array Slot), va_P G.1 vwCl [] H → va_D A [] → va_S A s.heap H locs → lv_has ls 4 [(1, .int x1), (2, .int x2)] → f_X8_inWay_15 x1 x2 s0 = some out → W p l e rm_X8_inWay s m args below meth c H locs 0 0 (MQ below (k_Qi G A out (fun (_ : Unit) => [])) args s 0 0 A) (F0 m 15 ls [.int s0]) := by
  have hx := C0.1
  have hb := C0.2.1
  have hts := C0.2.2.2.1
  have hown := C0.2.2.2.2.1
  have hK := C0.2.2.2.2.2.2.2.2.1.1
  have hNW := C0.2.2.2.2.2.2.2.2.1.2.1
  have hSF := C0.2.2.2.2.2.2.2.2.1.2.2
  intro x1 x2 s0 H locs ls hP hD hS hl hrun
  rw [f_X8_inWay_15] at hrun
  refine lv_istore_n (lv' := [(3, .int s0), (1, .int x1), (2, .int x2)]) hx hb dX8_inWay_15 rfl hl (by decide) rfl (fun ls hl => ?_)
  refine lv_iload_n hx hb dX8_inWay_16 rfl (lv_at hl 2 rfl) ?_
  refine lv_iconst (v := 2) hx hb dX8_inWay_17 (by decide) ?_
  refine lv_iand hx hb dX8_inWay_18 ?_
  refine lv_if_eq (tgt := 30) hx hb dX8_inWay_19 (by decide) (fun q1 => ?_) (fun q1 => ?_)
  · replace hrun := if_t q1 hrun
    refine lv_iload_n hx hb dX8_inWay_30 rfl (lv_at hl 0 rfl) ?_
    obtain rfl := Option.some.inj hrun
    exact k_reti C0 hP hD hS () rfl rfl dX8_inWay_31
  · replace hrun := if_f q1 hrun
    refine lv_iload_n hx hb dX8_inWay_22 rfl (lv_at hl 0 rfl) ?_
    refine lv_iload_n hx hb dX8_inWay_23 rfl (lv_at hl 1 rfl) ?_
    obtain ⟨t2, et2, hrun⟩ := bd_inv hrun
    refine k_calli0 C0 (k_runS (rest := []) C0 (c_X8_fromBelow et2) (va_cwS 2 hts gX8_inWay_X8_fromBelow rfl rfl rfl e_X8_fromBelow.2 ⟨Nat.le_of_ble_eq_true rfl, Nat.le_of_ble_eq_true rfl⟩) hP hD hS [] rfl (by decide) rfl hl.1 rfl (Nat.le_of_ble_eq_true rfl) dX8_inWay_24 ⟨Nat.le_of_ble_eq_true rfl, Nat.le_of_ble_eq_true rfl⟩) hP hS (fun H locs hP hS => ?_)
    refine lv_goto (tgt := 31) hx hb dX8_inWay_27 (by decide) ?_
    obtain rfl := Option.some.inj hrun
    exact k_reti C0 hP hD hS () rfl rfl dX8_inWay_31
set_option maxHeartbeats 4000000 in
set_option maxRecDepth 100000 in
theorem c_X8_inWay {l : Launch} {G : k_G} {sz : Nat} {p0 : Int32} {p1 : Int32} {p2 : Int32} {out : Int32} (hrun : f_X8_inWay p0 p1 p2 = some out) : k_Ci l G yX8_inWay wsX8_inWay rm_X8_inWay [.int p0, .int p1, .int p2] [] sz out (fun (_ : Unit) => []) 0 0 := by
  refine k_of (cc := cX8_inWay) (nL := 4) (ret := some .int) (own := RX8) (nm := "inWay") (by decide) rfl rfl rfl rfl ?_
  intro p e s m args below meth c ls hsz C0 hP hD hS hl
  have hl : lv_has ls 4 [(0, .int p0), (1, .int p1), (2, .int p2)] := hl
  generalize hH : s.heap = H at hP
  have hS : va_S (va_A [] sz) s.heap H [] := by rw [← hH]; exact hS
  clear hH
  generalize va_A [] sz = A at C0 hD hS ⊢
  have hx := C0.1
  have hb := C0.2.1
  have hts := C0.2.2.2.1
  have hown := C0.2.2.2.2.1
  have hK := C0.2.2.2.2.2.2.2.2.1.1
  have hNW := C0.2.2.2.2.2.2.2.2.1.2.1
  have hSF := C0.2.2.2.2.2.2.2.2.1.2.2
  rw [f_X8_inWay] at hrun
  refine lv_iload_n hx hb dX8_inWay_0 rfl (lv_at hl 2 rfl) ?_
  refine lv_iconst (v := 1) hx hb dX8_inWay_1 (by decide) ?_
  refine lv_iand hx hb dX8_inWay_2 ?_
  refine lv_if_eq (tgt := 14) hx hb dX8_inWay_3 (by decide) (fun q1 => ?_) (fun q1 => ?_)
  · replace hrun := if_t q1 hrun
    refine lv_iload_n hx hb dX8_inWay_14 rfl (lv_at hl 0 rfl) ?_
    exact t_X8_inWay_15 C0 p1 p2 p0 _ _ _ hP hD hS (lv_sub hl [1, 2] rfl) hrun
  · replace hrun := if_f q1 hrun
    refine lv_iload_n hx hb dX8_inWay_6 rfl (lv_at hl 0 rfl) ?_
    refine lv_iload_n hx hb dX8_inWay_7 rfl (lv_at hl 1 rfl) ?_
    obtain ⟨t2, et2, hrun⟩ := bd_inv hrun
    refine k_calli0 C0 (k_runS (rest := []) C0 (c_X8_twinned et2) (va_cwS 2 hts gX8_inWay_X8_twinned rfl rfl rfl e_X8_twinned.2 ⟨Nat.le_of_ble_eq_true rfl, Nat.le_of_ble_eq_true rfl⟩) hP hD hS [] rfl (by decide) rfl hl.1 rfl (Nat.le_of_ble_eq_true rfl) dX8_inWay_8 ⟨Nat.le_of_ble_eq_true rfl, Nat.le_of_ble_eq_true rfl⟩) hP hS (fun H locs hP hS => ?_)
    refine lv_goto (tgt := 15) hx hb dX8_inWay_11 (by decide) ?_
    exact t_X8_inWay_15 C0 p1 p2 t2 _ _ _ hP hD hS (lv_sub hl [1, 2] rfl) hrun
theorem u_X8_leastTurned_1 : (Cond.methodLink RX8 65 Lib.Math.min.name) ∈ wsX8_leastTurned := List.mem_of_getElem? (i := 1) (by decide +kernel)
theorem u_X8_leastTurned_2 : (Cond.static Lib.Math.min.name) ∈ wsX8_leastTurned := List.mem_of_getElem? (i := 2) (by decide +kernel)
theorem u_X8_leastTurned_3 : (Cond.initialized "java/lang/Math") ∈ wsX8_leastTurned := List.mem_of_getElem? (i := 3) (by decide +kernel)
theorem u_X8_leastTurned_4 : (Cond.code Lib.Math.min.name Lib.Math.min.code 2 (some .int)) ∈ wsX8_leastTurned := List.mem_of_getElem? (i := 4) (by decide +kernel)
abbrev rm_X8_leastTurned : Room := { frames := 1, cells := 0, slots := 0, locals := 22 }
theorem e_X8_leastTurned : yX8_leastTurned.cls = RX8 ∧ yX8_leastTurned.cls ≠ "java/lang/invoke/MethodHandle" ∧ yX8_leastTurned.cls ≠ "java/lang/invoke/VarHandle" ∧ (parseMethodDescriptor yX8_leastTurned.desc).map (fun d => d.parameters.length) = some 2 := by decide +kernel
set_option maxHeartbeats 4000000 in
set_option maxRecDepth 100000 in
theorem t_X8_leastTurned_7 {l : Launch} {G : k_G} {p : Program} {e : Env} {s : State} {m : MethodId} {args : Array Value} {below : List Frame} {meth : Method} {c : Code} {A : Nat → Prop} {out : Int32} (C0 : k_C G p s m args meth c A cX8_leastTurned RX8 wsX8_leastTurned 5 (some .int) "leastTurned") : ∀ (n : Nat) (x1 : Int32) (x2 : Int32) (x3 : Int32) (x4 : Int32) (H : Heap) (locs : List Loc) (ls : Array Slot), va_P G.1 vwCl [] H → va_D A [] → va_S A s.heap H locs → lv_has ls 5 [(1, .int x1), (2, .int x2), (3, .int x3), (4, .int x4)] → f_X8_leastTurned_7 n x1 x2 x3 x4 = some out → W p l e rm_X8_leastTurned s m args below meth c H locs 0 0 (MQ below (k_Qi G A out (fun (_ : Unit) => [])) args s 0 0 A) (F0 m 7 ls []) := by
  have hx := C0.1
  have hb := C0.2.1
  have hts := C0.2.2.2.1
  have hown := C0.2.2.2.2.1
  have hK := C0.2.2.2.2.2.2.2.2.1.1
  have hNW := C0.2.2.2.2.2.2.2.2.1.2.1
  have hSF := C0.2.2.2.2.2.2.2.2.1.2.2
  intro n
  induction n with
  | zero =>
    intro x1 x2 x3 x4 H locs ls hP hD hS hl hrun
    rw [f_X8_leastTurned_7] at hrun
    cases hrun
  | succ n ih =>
    intro x1 x2 x3 x4 H locs ls hP hD hS hl hrun
    rw [f_X8_leastTurned_7] at hrun
    refine lv_iload hx hb dX8_leastTurned_7 (lv_at hl 3 rfl) ?_
    refine lv_iload_n hx hb dX8_leastTurned_9 rfl (lv_at hl 0 rfl) ?_
    refine lv_icmp_ge (tgt := 31) hx hb dX8_leastTurned_10 (by decide) (fun q1 => ?_) (fun q1 => ?_)
    · replace hrun := if_t q1 hrun
      refine lv_iload_n hx hb dX8_leastTurned_31 rfl (lv_at hl 1 rfl) ?_
      obtain rfl := Option.some.inj hrun
      exact k_reti C0 hP hD hS () rfl rfl dX8_leastTurned_32
    · replace hrun := if_f q1 hrun
      refine lv_iload_n hx hb dX8_leastTurned_13 rfl (lv_at hl 2 rfl) ?_
      refine lv_iload_n hx hb dX8_leastTurned_14 rfl (lv_at hl 0 rfl) ?_
      obtain ⟨t2, et2, hrun⟩ := bd_inv hrun
      refine k_calli0 C0 (k_runS (rest := []) C0 (c_X8_turned et2) (va_cwS 2 hts gX8_leastTurned_X8_turned rfl rfl rfl e_X8_turned.2 ⟨Nat.le_of_ble_eq_true rfl, Nat.le_of_ble_eq_true rfl⟩) hP hD hS [] rfl (by decide) rfl hl.1 rfl (Nat.le_of_ble_eq_true rfl) dX8_leastTurned_15 ⟨Nat.le_of_ble_eq_true rfl, Nat.le_of_ble_eq_true rfl⟩) hP hS (fun H locs hP hS => ?_)
      refine lv_istore_n (lv' := [(3, .int t2), (1, .int x1), (2, .int x2), (4, .int x4)]) hx hb dX8_leastTurned_18 rfl hl (by decide) rfl (fun ls hl => ?_)
      refine lv_iload_n hx hb dX8_leastTurned_19 rfl (lv_at hl 2 rfl) ?_
      refine lv_iload_n hx hb dX8_leastTurned_20 rfl (lv_at hl 0 rfl) ?_
      refine va_mmin hx hb (C0.2.2.2.2.2.2.1.trans hl.1.symm) hown (hts _ u_X8_leastTurned_1) (hts _ u_X8_leastTurned_2) (hts _ u_X8_leastTurned_3) (hts _ u_X8_leastTurned_4) (Nat.le_of_ble_eq_true rfl) (Nat.le_of_ble_eq_true rfl) (Nat.le_of_ble_eq_true rfl) (Nat.le_of_ble_eq_true rfl) dX8_leastTurned_21 ?_
      obtain ⟨n3, en, hrun⟩ := lt_inv hrun
      refine k_nmi en ?_
      clear en
      refine lv_istore_n (lv' := [(2, .int n3), (3, .int t2), (1, .int x1), (4, .int x4)]) hx hb dX8_leastTurned_24 rfl hl (by decide) rfl (fun ls hl => ?_)
      refine lv_iinc (v := x4 + 1) (lv' := [(4, .int (x4 + 1)), (2, .int n3), (3, .int t2), (1, .int x1)]) hx hb dX8_leastTurned_25 hl (k := 3) rfl rfl (by decide) rfl (fun ls hl => ?_)
      refine lv_goto (tgt := 7) hx hb dX8_leastTurned_28 (by decide) ?_
      exact ih x1 n3 t2 (x4 + 1) _ _ _ hP hD hS (lv_sub hl [3, 1, 2, 0] rfl) hrun
set_option maxHeartbeats 4000000 in
set_option maxRecDepth 100000 in
theorem c_X8_leastTurned {l : Launch} {G : k_G} {sz : Nat} {p0 : Int32} {p1 : Int32} {out : Int32} (hrun : f_X8_leastTurned p0 p1 = some out) : k_Ci l G yX8_leastTurned wsX8_leastTurned rm_X8_leastTurned [.int p0, .int p1] [] sz out (fun (_ : Unit) => []) 0 0 := by
  refine k_of (cc := cX8_leastTurned) (nL := 5) (ret := some .int) (own := RX8) (nm := "leastTurned") (by decide) rfl rfl rfl rfl ?_
  intro p e s m args below meth c ls hsz C0 hP hD hS hl
  have hl : lv_has ls 5 [(0, .int p0), (1, .int p1)] := hl
  generalize hH : s.heap = H at hP
  have hS : va_S (va_A [] sz) s.heap H [] := by rw [← hH]; exact hS
  clear hH
  generalize va_A [] sz = A at C0 hD hS ⊢
  have hx := C0.1
  have hb := C0.2.1
  have hts := C0.2.2.2.1
  have hown := C0.2.2.2.2.1
  have hK := C0.2.2.2.2.2.2.2.2.1.1
  have hNW := C0.2.2.2.2.2.2.2.2.1.2.1
  have hSF := C0.2.2.2.2.2.2.2.2.1.2.2
  rw [f_X8_leastTurned] at hrun
  refine lv_iload_n hx hb dX8_leastTurned_0 rfl (lv_at hl 0 rfl) ?_
  refine lv_istore_n (lv' := [(2, .int p0), (0, .int p0), (1, .int p1)]) hx hb dX8_leastTurned_1 rfl hl (by decide) rfl (fun ls hl => ?_)
  refine lv_iload_n hx hb dX8_leastTurned_2 rfl (lv_at hl 1 rfl) ?_
  refine lv_istore_n (lv' := [(3, .int p0), (2, .int p0), (0, .int p0), (1, .int p1)]) hx hb dX8_leastTurned_3 rfl hl (by decide) rfl (fun ls hl => ?_)
  refine lv_iconst (v := 1) hx hb dX8_leastTurned_4 (by decide) ?_
  refine lv_istore (lv' := [(4, .int (1 : Int32)), (3, .int p0), (2, .int p0), (0, .int p0), (1, .int p1)]) hx hb dX8_leastTurned_5 hl (by decide) rfl (fun ls hl => ?_)
  exact t_X8_leastTurned_7 C0 kFU p1 p0 p0 (1 : Int32) _ _ _ hP hD hS (lv_sub hl [4, 2, 1, 0] rfl) hrun
theorem u_X8_leastAlike_1 : (Cond.methodLink RX8 65 Lib.Math.min.name) ∈ wsX8_leastAlike := List.mem_of_getElem? (i := 1) (by decide +kernel)
theorem u_X8_leastAlike_2 : (Cond.static Lib.Math.min.name) ∈ wsX8_leastAlike := List.mem_of_getElem? (i := 2) (by decide +kernel)
theorem u_X8_leastAlike_3 : (Cond.initialized "java/lang/Math") ∈ wsX8_leastAlike := List.mem_of_getElem? (i := 3) (by decide +kernel)
theorem u_X8_leastAlike_4 : (Cond.code Lib.Math.min.name Lib.Math.min.code 2 (some .int)) ∈ wsX8_leastAlike := List.mem_of_getElem? (i := 4) (by decide +kernel)
abbrev rm_X8_leastAlike : Room := { frames := 4, cells := 0, slots := 0, locals := 87 }
theorem e_X8_leastAlike : yX8_leastAlike.cls = RX8 ∧ yX8_leastAlike.cls ≠ "java/lang/invoke/MethodHandle" ∧ yX8_leastAlike.cls ≠ "java/lang/invoke/VarHandle" ∧ (parseMethodDescriptor yX8_leastAlike.desc).map (fun d => d.parameters.length) = some 3 := by decide +kernel
set_option maxHeartbeats 4000000 in
set_option maxRecDepth 100000 in
theorem t_X8_leastAlike_36 {l : Launch} {G : k_G} {p : Program} {e : Env} {s : State} {m : MethodId} {args : Array Value} {below : List Frame} {meth : Method} {c : Code} {A : Nat → Prop} {out : Int32} (C0 : k_C G p s m args meth c A cX8_leastAlike RX8 wsX8_leastAlike 5 (some .int) "leastAlike") (k5 : Int32 → Int32 → Int32 → Int32 → Int32 → Option (Int32)) (hk5 : ∀ (x0 : Int32) (x1 : Int32) (x2 : Int32) (x3 : Int32) (x4 : Int32) (H : Heap) (locs : List Loc) (ls : Array Slot), va_P G.1 vwCl [] H → va_D A [] → va_S A s.heap H locs → lv_has ls 5 [(0, .int x0), (1, .int x1), (2, .int x2), (3, .int x3), (4, .int x4)] → k5 x0 x1 x2 x3 x4 = some out → W p l e rm_X8_leastAlike s m args below meth c H locs 0 0 (MQ below (k_Qi G A out (fun (_ : Unit) => [])) args s 0 0 A) (F0 m 5 ls [])) : ∀ (x0 : Int32) (x1 : Int32) (x2 : Int32) (x3 : Int32) (x4 : Int32) (H : Heap) (locs : List Loc) (ls : Array Slot), va_P G.1 vwCl [] H → va_D A [] → va_S A s.heap H locs → lv_has ls 5 [(0, .int x0), (1, .int x1), (2, .int x2), (3, .int x3), (4, .int x4)] → f_X8_leastAlike_36 k5 x0 x1 x2 x3 x4 = some out → W p l e rm_X8_leastAlike s m args below meth c H locs 0 0 (MQ below (k_Qi G A out (fun (_ : Unit) => [])) args s 0 0 A) (F0 m 36 ls []) := by
  have hx := C0.1
  have hb := C0.2.1
  have hts := C0.2.2.2.1
  have hown := C0.2.2.2.2.1
  have hK := C0.2.2.2.2.2.2.2.2.1.1
  have hNW := C0.2.2.2.2.2.2.2.2.1.2.1
  have hSF := C0.2.2.2.2.2.2.2.2.1.2.2
  intro x0 x1 x2 x3 x4 H locs ls hP hD hS hl hrun
  rw [f_X8_leastAlike_36] at hrun
  refine lv_iinc (v := x4 + 1) (lv' := [(4, .int (x4 + 1)), (0, .int x0), (1, .int x1), (2, .int x2), (3, .int x3)]) hx hb dX8_leastAlike_36 hl (k := 4) rfl rfl (by decide) rfl (fun ls hl => ?_)
  refine lv_goto (tgt := 5) hx hb dX8_leastAlike_39 (by decide) ?_
  exact hk5 x0 x1 x2 x3 (x4 + 1) _ _ _ hP hD hS (lv_sub hl [1, 2, 3, 4, 0] rfl) hrun
set_option maxHeartbeats 4000000 in
set_option maxRecDepth 100000 in
theorem t_X8_leastAlike_5 {l : Launch} {G : k_G} {p : Program} {e : Env} {s : State} {m : MethodId} {args : Array Value} {below : List Frame} {meth : Method} {c : Code} {A : Nat → Prop} {out : Int32} (C0 : k_C G p s m args meth c A cX8_leastAlike RX8 wsX8_leastAlike 5 (some .int) "leastAlike") : ∀ (n : Nat) (x0 : Int32) (x1 : Int32) (x2 : Int32) (x3 : Int32) (x4 : Int32) (H : Heap) (locs : List Loc) (ls : Array Slot), va_P G.1 vwCl [] H → va_D A [] → va_S A s.heap H locs → lv_has ls 5 [(0, .int x0), (1, .int x1), (2, .int x2), (3, .int x3), (4, .int x4)] → f_X8_leastAlike_5 n x0 x1 x2 x3 x4 = some out → W p l e rm_X8_leastAlike s m args below meth c H locs 0 0 (MQ below (k_Qi G A out (fun (_ : Unit) => [])) args s 0 0 A) (F0 m 5 ls []) := by
  have hx := C0.1
  have hb := C0.2.1
  have hts := C0.2.2.2.1
  have hown := C0.2.2.2.2.1
  have hK := C0.2.2.2.2.2.2.2.2.1.1
  have hNW := C0.2.2.2.2.2.2.2.2.1.2.1
  have hSF := C0.2.2.2.2.2.2.2.2.1.2.2
  intro n
  induction n with
  | zero =>
    intro x0 x1 x2 x3 x4 H locs ls hP hD hS hl hrun
    rw [f_X8_leastAlike_5] at hrun
    cases hrun
  | succ n ih =>
    intro x0 x1 x2 x3 x4 H locs ls hP hD hS hl hrun
    rw [f_X8_leastAlike_5] at hrun
    refine lv_iload hx hb dX8_leastAlike_5 (lv_at hl 4 rfl) ?_
    refine lv_iconst (v := 3) hx hb dX8_leastAlike_7 (by decide) ?_
    refine lv_icmp_gt (tgt := 42) hx hb dX8_leastAlike_8 (by decide) (fun q1 => ?_) (fun q1 => ?_)
    · replace hrun := if_t q1 hrun
      refine lv_iload_n hx hb dX8_leastAlike_42 rfl (lv_at hl 3 rfl) ?_
      obtain rfl := Option.some.inj hrun
      exact k_reti C0 hP hD hS () rfl rfl dX8_leastAlike_43
    · replace hrun := if_f q1 hrun
      refine lv_iload_n hx hb dX8_leastAlike_11 rfl (lv_at hl 2 rfl) ?_
      refine lv_iload hx hb dX8_leastAlike_12 (lv_at hl 4 rfl) ?_
      obtain ⟨t2, et2, hrun⟩ := bd_inv hrun
      refine k_calli0 C0 (k_runS (rest := []) C0 (c_X8_allows et2) (va_cwS 2 hts gX8_leastAlike_X8_allows rfl rfl rfl e_X8_allows.2 ⟨Nat.le_of_ble_eq_true rfl, Nat.le_of_ble_eq_true rfl⟩) hP hD hS [] rfl (by decide) rfl hl.1 rfl (Nat.le_of_ble_eq_true rfl) dX8_leastAlike_14 ⟨Nat.le_of_ble_eq_true rfl, Nat.le_of_ble_eq_true rfl⟩) hP hS (fun H locs hP hS => ?_)
      refine lv_if_eq (tgt := 36) hx hb dX8_leastAlike_17 (by decide) (fun q3 => ?_) (fun q3 => ?_)
      · replace hrun := if_t q3 hrun
        exact t_X8_leastAlike_36 C0 (fun x0 x1 x2 x3 x4 => f_X8_leastAlike_5 n x0 x1 x2 x3 x4) ih x0 x1 x2 x3 x4 _ _ _ hP hD hS hl hrun
      · replace hrun := if_f q3 hrun
        refine lv_iload_n hx hb dX8_leastAlike_20 rfl (lv_at hl 3 rfl) ?_
        refine lv_iload_n hx hb dX8_leastAlike_21 rfl (lv_at hl 0 rfl) ?_
        refine lv_iload_n hx hb dX8_leastAlike_22 rfl (lv_at hl 1 rfl) ?_
        refine lv_iload hx hb dX8_leastAlike_23 (lv_at hl 4 rfl) ?_
        obtain ⟨t4, et4, hrun⟩ := bd_inv hrun
        refine k_calli0 C0 (k_runS (rest := [.int x3]) C0 (c_X8_inWay et4) (va_cwS 3 hts gX8_leastAlike_X8_inWay rfl rfl rfl e_X8_inWay.2 ⟨Nat.le_of_ble_eq_true rfl, Nat.le_of_ble_eq_true rfl⟩) hP hD hS [] rfl (by decide) rfl hl.1 rfl (Nat.le_of_ble_eq_true rfl) dX8_leastAlike_25 ⟨Nat.le_of_ble_eq_true rfl, Nat.le_of_ble_eq_true rfl⟩) hP hS (fun H locs hP hS => ?_)
        refine lv_iload_n hx hb dX8_leastAlike_28 rfl (lv_at hl 1 rfl) ?_
        obtain ⟨t5, et5, hrun⟩ := bd_inv hrun
        refine k_calli0 C0 (k_runS (rest := [.int x3]) C0 (c_X8_leastTurned et5) (va_cwS 2 hts gX8_leastAlike_X8_leastTurned rfl rfl rfl e_X8_leastTurned.2 ⟨Nat.le_of_ble_eq_true rfl, Nat.le_of_ble_eq_true rfl⟩) hP hD hS [] rfl (by decide) rfl hl.1 rfl (Nat.le_of_ble_eq_true rfl) dX8_leastAlike_29 ⟨Nat.le_of_ble_eq_true rfl, Nat.le_of_ble_eq_true rfl⟩) hP hS (fun H locs hP hS => ?_)
        refine va_mmin hx hb (C0.2.2.2.2.2.2.1.trans hl.1.symm) hown (hts _ u_X8_leastAlike_1) (hts _ u_X8_leastAlike_2) (hts _ u_X8_leastAlike_3) (hts _ u_X8_leastAlike_4) (Nat.le_of_ble_eq_true rfl) (Nat.le_of_ble_eq_true rfl) (Nat.le_of_ble_eq_true rfl) (Nat.le_of_ble_eq_true rfl) dX8_leastAlike_32 ?_
        obtain ⟨n6, en, hrun⟩ := lt_inv hrun
        refine k_nmi en ?_
        clear en
        refine lv_istore_n (lv' := [(3, .int n6), (0, .int x0), (1, .int x1), (2, .int x2), (4, .int x4)]) hx hb dX8_leastAlike_35 rfl hl (by decide) rfl (fun ls hl => ?_)
        exact t_X8_leastAlike_36 C0 (fun x0 x1 x2 x3 x4 => f_X8_leastAlike_5 n x0 x1 x2 x3 x4) ih x0 x1 x2 n6 x4 _ _ _ hP hD hS (lv_sub hl [1, 2, 3, 0, 4] rfl) hrun
set_option maxHeartbeats 4000000 in
set_option maxRecDepth 100000 in
theorem c_X8_leastAlike {l : Launch} {G : k_G} {sz : Nat} {p0 : Int32} {p1 : Int32} {p2 : Int32} {out : Int32} (hrun : f_X8_leastAlike p0 p1 p2 = some out) : k_Ci l G yX8_leastAlike wsX8_leastAlike rm_X8_leastAlike [.int p0, .int p1, .int p2] [] sz out (fun (_ : Unit) => []) 0 0 := by
  refine k_of (cc := cX8_leastAlike) (nL := 5) (ret := some .int) (own := RX8) (nm := "leastAlike") (by decide) rfl rfl rfl rfl ?_
  intro p e s m args below meth c ls hsz C0 hP hD hS hl
  have hl : lv_has ls 5 [(0, .int p0), (1, .int p1), (2, .int p2)] := hl
  generalize hH : s.heap = H at hP
  have hS : va_S (va_A [] sz) s.heap H [] := by rw [← hH]; exact hS
  clear hH
  generalize va_A [] sz = A at C0 hD hS ⊢
  have hx := C0.1
  have hb := C0.2.1
  have hts := C0.2.2.2.1
  have hown := C0.2.2.2.2.1
  have hK := C0.2.2.2.2.2.2.2.2.1.1
  have hNW := C0.2.2.2.2.2.2.2.2.1.2.1
  have hSF := C0.2.2.2.2.2.2.2.2.1.2.2
  rw [f_X8_leastAlike] at hrun
  refine lv_iload_n hx hb dX8_leastAlike_0 rfl (lv_at hl 0 rfl) ?_
  refine lv_istore_n (lv' := [(3, .int p0), (0, .int p0), (1, .int p1), (2, .int p2)]) hx hb dX8_leastAlike_1 rfl hl (by decide) rfl (fun ls hl => ?_)
  refine lv_iconst (v := 0) hx hb dX8_leastAlike_2 (by decide) ?_
  refine lv_istore (lv' := [(4, .int (0 : Int32)), (3, .int p0), (0, .int p0), (1, .int p1), (2, .int p2)]) hx hb dX8_leastAlike_3 hl (by decide) rfl (fun ls hl => ?_)
  exact t_X8_leastAlike_5 C0 kFU p0 p1 p2 p0 (0 : Int32) _ _ _ hP hD hS (lv_sub hl [2, 3, 4, 1, 0] rfl) hrun
abbrev rm_X8_isLeastAlike : Room := { frames := 4, cells := 0, slots := 0, locals := 87 }
theorem e_X8_isLeastAlike : yX8_isLeastAlike.cls = RX8 ∧ yX8_isLeastAlike.cls ≠ "java/lang/invoke/MethodHandle" ∧ yX8_isLeastAlike.cls ≠ "java/lang/invoke/VarHandle" ∧ (parseMethodDescriptor yX8_isLeastAlike.desc).map (fun d => d.parameters.length) = some 3 := by decide +kernel
set_option maxHeartbeats 4000000 in
set_option maxRecDepth 100000 in
theorem t_X8_isLeastAlike_54 {l : Launch} {G : k_G} {p : Program} {e : Env} {s : State} {m : MethodId} {args : Array Value} {below : List Frame} {meth : Method} {c : Code} {A : Nat → Prop} {out : Int32} (C0 : k_C G p s m args meth c A cX8_isLeastAlike RX8 wsX8_isLeastAlike 6 (some .boolean) "isLeastAlike") (k2 : Int32 → Int32 → Int32 → Int32 → Option (Int32)) (hk2 : ∀ (x0 : Int32) (x1 : Int32) (x2 : Int32) (x3 : Int32) (H : Heap) (locs : List Loc) (ls : Array Slot), va_P G.1 vwCl [] H → va_D A [] → va_S A s.heap H locs → lv_has ls 6 [(0, .int x0), (1, .int x1), (2, .int x2), (3, .int x3)] → k2 x0 x1 x2 x3 = some out → W p l e rm_X8_isLeastAlike s m args below meth c H locs 0 0 (MQ below (k_Qi G A out (fun (_ : Unit) => [])) args s 0 0 A) (F0 m 2 ls [])) : ∀ (x0 : Int32) (x1 : Int32) (x2 : Int32) (x3 : Int32) (H : Heap) (locs : List Loc) (ls : Array Slot), va_P G.1 vwCl [] H → va_D A [] → va_S A s.heap H locs → lv_has ls 6 [(0, .int x0), (1, .int x1), (2, .int x2), (3, .int x3)] → f_X8_isLeastAlike_54 k2 x0 x1 x2 x3 = some out → W p l e rm_X8_isLeastAlike s m args below meth c H locs 0 0 (MQ below (k_Qi G A out (fun (_ : Unit) => [])) args s 0 0 A) (F0 m 54 ls []) := by
  have hx := C0.1
  have hb := C0.2.1
  have hts := C0.2.2.2.1
  have hown := C0.2.2.2.2.1
  have hK := C0.2.2.2.2.2.2.2.2.1.1
  have hNW := C0.2.2.2.2.2.2.2.2.1.2.1
  have hSF := C0.2.2.2.2.2.2.2.2.1.2.2
  intro x0 x1 x2 x3 H locs ls hP hD hS hl hrun
  rw [f_X8_isLeastAlike_54] at hrun
  refine lv_iinc (v := x3 + 1) (lv' := [(3, .int (x3 + 1)), (0, .int x0), (1, .int x1), (2, .int x2)]) hx hb dX8_isLeastAlike_54 hl (k := 3) rfl rfl (by decide) rfl (fun ls hl => ?_)
  refine lv_goto (tgt := 2) hx hb dX8_isLeastAlike_57 (by decide) ?_
  exact hk2 x0 x1 x2 (x3 + 1) _ _ _ hP hD hS (lv_sub hl [1, 2, 3, 0] rfl) hrun
set_option maxHeartbeats 4000000 in
set_option maxRecDepth 100000 in
theorem t_X8_isLeastAlike_18 {l : Launch} {G : k_G} {p : Program} {e : Env} {s : State} {m : MethodId} {args : Array Value} {below : List Frame} {meth : Method} {c : Code} {A : Nat → Prop} {out : Int32} (C0 : k_C G p s m args meth c A cX8_isLeastAlike RX8 wsX8_isLeastAlike 6 (some .boolean) "isLeastAlike") (k2 : Int32 → Int32 → Int32 → Int32 → Option (Int32)) (hk2 : ∀ (x0 : Int32) (x1 : Int32) (x2 : Int32) (x3 : Int32) (H : Heap) (locs : List Loc) (ls : Array Slot), va_P G.1 vwCl [] H → va_D A [] → va_S A s.heap H locs → lv_has ls 6 [(0, .int x0), (1, .int x1), (2, .int x2), (3, .int x3)] → k2 x0 x1 x2 x3 = some out → W p l e rm_X8_isLeastAlike s m args below meth c H locs 0 0 (MQ below (k_Qi G A out (fun (_ : Unit) => [])) args s 0 0 A) (F0 m 2 ls [])) : ∀ (n : Nat) (x0 : Int32) (x1 : Int32) (x2 : Int32) (x3 : Int32) (x4 : Int32) (x5 : Int32) (H : Heap) (locs : List Loc) (ls : Array Slot), va_P G.1 vwCl [] H → va_D A [] → va_S A s.heap H locs → lv_has ls 6 [(0, .int x0), (1, .int x1), (2, .int x2), (3, .int x3), (4, .int x4), (5, .int x5)] → f_X8_isLeastAlike_18 k2 n x0 x1 x2 x3 x4 x5 = some out → W p l e rm_X8_isLeastAlike s m args below meth c H locs 0 0 (MQ below (k_Qi G A out (fun (_ : Unit) => [])) args s 0 0 A) (F0 m 18 ls []) := by
  have hx := C0.1
  have hb := C0.2.1
  have hts := C0.2.2.2.1
  have hown := C0.2.2.2.2.1
  have hK := C0.2.2.2.2.2.2.2.2.1.1
  have hNW := C0.2.2.2.2.2.2.2.2.1.2.1
  have hSF := C0.2.2.2.2.2.2.2.2.1.2.2
  intro n
  induction n with
  | zero =>
    intro x0 x1 x2 x3 x4 x5 H locs ls hP hD hS hl hrun
    rw [f_X8_isLeastAlike_18] at hrun
    cases hrun
  | succ n ih =>
    intro x0 x1 x2 x3 x4 x5 H locs ls hP hD hS hl hrun
    rw [f_X8_isLeastAlike_18] at hrun
    refine lv_iload hx hb dX8_isLeastAlike_18 (lv_at hl 5 rfl) ?_
    refine lv_iload_n hx hb dX8_isLeastAlike_20 rfl (lv_at hl 1 rfl) ?_
    refine lv_icmp_ge (tgt := 54) hx hb dX8_isLeastAlike_21 (by decide) (fun q1 => ?_) (fun q1 => ?_)
    · replace hrun := if_t q1 hrun
      exact t_X8_isLeastAlike_54 C0 k2 hk2 x0 x1 x2 x3 _ _ _ hP hD hS (lv_sub hl [0, 1, 2, 3] rfl) hrun
    · replace hrun := if_f q1 hrun
      refine lv_iload_n hx hb dX8_isLeastAlike_24 rfl (lv_at hl 2 rfl) ?_
      refine lv_iload_n hx hb dX8_isLeastAlike_25 rfl (lv_at hl 3 rfl) ?_
      obtain ⟨t2, et2, hrun⟩ := bd_inv hrun
      refine k_calli0 C0 (k_runS (rest := []) C0 (c_X8_allows et2) (va_cwS 2 hts gX8_isLeastAlike_X8_allows rfl rfl rfl e_X8_allows.2 ⟨Nat.le_of_ble_eq_true rfl, Nat.le_of_ble_eq_true rfl⟩) hP hD hS [] rfl (by decide) rfl hl.1 rfl (Nat.le_of_ble_eq_true rfl) dX8_isLeastAlike_26 ⟨Nat.le_of_ble_eq_true rfl, Nat.le_of_ble_eq_true rfl⟩) hP hS (fun H locs hP hS => ?_)
      refine lv_if_eq (tgt := 54) hx hb dX8_isLeastAlike_29 (by decide) (fun q3 => ?_) (fun q3 => ?_)
      · replace hrun := if_t q3 hrun
        exact t_X8_isLeastAlike_54 C0 k2 hk2 x0 x1 x2 x3 _ _ _ hP hD hS (lv_sub hl [0, 1, 2, 3] rfl) hrun
      · replace hrun := if_f q3 hrun
        refine lv_iload hx hb dX8_isLeastAlike_32 (lv_at hl 4 rfl) ?_
        refine lv_iload_n hx hb dX8_isLeastAlike_34 rfl (lv_at hl 0 rfl) ?_
        refine lv_icmp_ge (tgt := 40) hx hb dX8_isLeastAlike_35 (by decide) (fun q4 => ?_) (fun q4 => ?_)
        · replace hrun := if_t q4 hrun
          refine lv_iload hx hb dX8_isLeastAlike_40 (lv_at hl 4 rfl) ?_
          refine lv_iload_n hx hb dX8_isLeastAlike_42 rfl (lv_at hl 1 rfl) ?_
          obtain ⟨t5, et5, hrun⟩ := bd_inv hrun
          refine k_calli0 C0 (k_runS (rest := []) C0 (c_X8_turned et5) (va_cwS 2 hts gX8_isLeastAlike_X8_turned rfl rfl rfl e_X8_turned.2 ⟨Nat.le_of_ble_eq_true rfl, Nat.le_of_ble_eq_true rfl⟩) hP hD hS [] rfl (by decide) rfl hl.1 rfl (Nat.le_of_ble_eq_true rfl) dX8_isLeastAlike_43 ⟨Nat.le_of_ble_eq_true rfl, Nat.le_of_ble_eq_true rfl⟩) hP hS (fun H locs hP hS => ?_)
          refine lv_istore (lv' := [(4, .int t5), (0, .int x0), (1, .int x1), (2, .int x2), (3, .int x3), (5, .int x5)]) hx hb dX8_isLeastAlike_46 hl (by decide) rfl (fun ls hl => ?_)
          refine lv_iinc (v := x5 + 1) (lv' := [(5, .int (x5 + 1)), (4, .int t5), (0, .int x0), (1, .int x1), (2, .int x2), (3, .int x3)]) hx hb dX8_isLeastAlike_48 hl (k := 5) rfl rfl (by decide) rfl (fun ls hl => ?_)
          refine lv_goto (tgt := 18) hx hb dX8_isLeastAlike_51 (by decide) ?_
          exact ih x0 x1 x2 x3 t5 (x5 + 1) _ _ _ hP hD hS (lv_sub hl [2, 3, 4, 5, 1, 0] rfl) hrun
        · replace hrun := if_f q4 hrun
          refine lv_iconst (v := 0) hx hb dX8_isLeastAlike_38 (by decide) ?_
          obtain rfl := Option.some.inj hrun
          exact k_retz C0 hP hD hS () rfl rfl rfl dX8_isLeastAlike_39
set_option maxHeartbeats 4000000 in
set_option maxRecDepth 100000 in
theorem t_X8_isLeastAlike_2 {l : Launch} {G : k_G} {p : Program} {e : Env} {s : State} {m : MethodId} {args : Array Value} {below : List Frame} {meth : Method} {c : Code} {A : Nat → Prop} {out : Int32} (C0 : k_C G p s m args meth c A cX8_isLeastAlike RX8 wsX8_isLeastAlike 6 (some .boolean) "isLeastAlike") : ∀ (n : Nat) (x0 : Int32) (x1 : Int32) (x2 : Int32) (x3 : Int32) (H : Heap) (locs : List Loc) (ls : Array Slot), va_P G.1 vwCl [] H → va_D A [] → va_S A s.heap H locs → lv_has ls 6 [(0, .int x0), (1, .int x1), (2, .int x2), (3, .int x3)] → f_X8_isLeastAlike_2 n x0 x1 x2 x3 = some out → W p l e rm_X8_isLeastAlike s m args below meth c H locs 0 0 (MQ below (k_Qi G A out (fun (_ : Unit) => [])) args s 0 0 A) (F0 m 2 ls []) := by
  have hx := C0.1
  have hb := C0.2.1
  have hts := C0.2.2.2.1
  have hown := C0.2.2.2.2.1
  have hK := C0.2.2.2.2.2.2.2.2.1.1
  have hNW := C0.2.2.2.2.2.2.2.2.1.2.1
  have hSF := C0.2.2.2.2.2.2.2.2.1.2.2
  intro n
  induction n with
  | zero =>
    intro x0 x1 x2 x3 H locs ls hP hD hS hl hrun
    rw [f_X8_isLeastAlike_2] at hrun
    cases hrun
  | succ n ih =>
    intro x0 x1 x2 x3 H locs ls hP hD hS hl hrun
    rw [f_X8_isLeastAlike_2] at hrun
    refine lv_iload_n hx hb dX8_isLeastAlike_2 rfl (lv_at hl 3 rfl) ?_
    refine lv_iconst (v := 3) hx hb dX8_isLeastAlike_3 (by decide) ?_
    refine lv_icmp_gt (tgt := 60) hx hb dX8_isLeastAlike_4 (by decide) (fun q1 => ?_) (fun q1 => ?_)
    · replace hrun := if_t q1 hrun
      refine lv_iconst (v := 1) hx hb dX8_isLeastAlike_60 (by decide) ?_
      obtain rfl := Option.some.inj hrun
      exact k_retz C0 hP hD hS () rfl rfl rfl dX8_isLeastAlike_61
    · replace hrun := if_f q1 hrun
      refine lv_iload_n hx hb dX8_isLeastAlike_7 rfl (lv_at hl 0 rfl) ?_
      refine lv_iload_n hx hb dX8_isLeastAlike_8 rfl (lv_at hl 1 rfl) ?_
      refine lv_iload_n hx hb dX8_isLeastAlike_9 rfl (lv_at hl 3 rfl) ?_
      obtain ⟨t2, et2, hrun⟩ := bd_inv hrun
      refine k_calli0 C0 (k_runS (rest := []) C0 (c_X8_inWay et2) (va_cwS 3 hts gX8_isLeastAlike_X8_inWay rfl rfl rfl e_X8_inWay.2 ⟨Nat.le_of_ble_eq_true rfl, Nat.le_of_ble_eq_true rfl⟩) hP hD hS [] rfl (by decide) rfl hl.1 rfl (Nat.le_of_ble_eq_true rfl) dX8_isLeastAlike_10 ⟨Nat.le_of_ble_eq_true rfl, Nat.le_of_ble_eq_true rfl⟩) hP hS (fun H locs hP hS => ?_)
      refine lv_istore (lv' := [(4, .int t2), (0, .int x0), (1, .int x1), (2, .int x2), (3, .int x3)]) hx hb dX8_isLeastAlike_13 hl (by decide) rfl (fun ls hl => ?_)
      refine lv_iconst (v := 0) hx hb dX8_isLeastAlike_15 (by decide) ?_
      refine lv_istore (lv' := [(5, .int (0 : Int32)), (4, .int t2), (0, .int x0), (1, .int x1), (2, .int x2), (3, .int x3)]) hx hb dX8_isLeastAlike_16 hl (by decide) rfl (fun ls hl => ?_)
      exact t_X8_isLeastAlike_18 C0 (fun x0 x1 x2 x3 => f_X8_isLeastAlike_2 n x0 x1 x2 x3) ih kFU x0 x1 x2 x3 t2 (0 : Int32) _ _ _ hP hD hS (lv_sub hl [2, 3, 4, 5, 1, 0] rfl) hrun
set_option maxHeartbeats 4000000 in
set_option maxRecDepth 100000 in
theorem c_X8_isLeastAlike {l : Launch} {G : k_G} {sz : Nat} {p0 : Int32} {p1 : Int32} {p2 : Int32} {out : Int32} (hrun : f_X8_isLeastAlike p0 p1 p2 = some out) : k_Ci l G yX8_isLeastAlike wsX8_isLeastAlike rm_X8_isLeastAlike [.int p0, .int p1, .int p2] [] sz out (fun (_ : Unit) => []) 0 0 := by
  refine k_of (cc := cX8_isLeastAlike) (nL := 6) (ret := some .boolean) (own := RX8) (nm := "isLeastAlike") (by decide) rfl rfl rfl rfl ?_
  intro p e s m args below meth c ls hsz C0 hP hD hS hl
  have hl : lv_has ls 6 [(0, .int p0), (1, .int p1), (2, .int p2)] := hl
  generalize hH : s.heap = H at hP
  have hS : va_S (va_A [] sz) s.heap H [] := by rw [← hH]; exact hS
  clear hH
  generalize va_A [] sz = A at C0 hD hS ⊢
  have hx := C0.1
  have hb := C0.2.1
  have hts := C0.2.2.2.1
  have hown := C0.2.2.2.2.1
  have hK := C0.2.2.2.2.2.2.2.2.1.1
  have hNW := C0.2.2.2.2.2.2.2.2.1.2.1
  have hSF := C0.2.2.2.2.2.2.2.2.1.2.2
  rw [f_X8_isLeastAlike] at hrun
  refine lv_iconst (v := 0) hx hb dX8_isLeastAlike_0 (by decide) ?_
  refine lv_istore_n (lv' := [(3, .int (0 : Int32)), (0, .int p0), (1, .int p1), (2, .int p2)]) hx hb dX8_isLeastAlike_1 rfl hl (by decide) rfl (fun ls hl => ?_)
  exact t_X8_isLeastAlike_2 C0 kFU p0 p1 p2 (0 : Int32) _ _ _ hP hD hS (lv_sub hl [1, 2, 3, 0] rfl) hrun
abbrev rm_X8_countAlike : Room := { frames := 4, cells := 0, slots := 0, locals := 87 }
theorem e_X8_countAlike : yX8_countAlike.cls = RX8 ∧ yX8_countAlike.cls ≠ "java/lang/invoke/MethodHandle" ∧ yX8_countAlike.cls ≠ "java/lang/invoke/VarHandle" ∧ (parseMethodDescriptor yX8_countAlike.desc).map (fun d => d.parameters.length) = some 3 := by decide +kernel
set_option maxHeartbeats 4000000 in
set_option maxRecDepth 100000 in
theorem t_X8_countAlike_73 {l : Launch} {G : k_G} {p : Program} {e : Env} {s : State} {m : MethodId} {args : Array Value} {below : List Frame} {meth : Method} {c : Code} {A : Nat → Prop} {out : Int32} (C0 : k_C G p s m args meth c A cX8_countAlike RX8 wsX8_countAlike 7 (some .int) "countAlike") (k5 : Int32 → Int32 → Int32 → Int32 → Int32 → Option (Int32)) (hk5 : ∀ (x0 : Int32) (x1 : Int32) (x2 : Int32) (x3 : Int32) (x4 : Int32) (H : Heap) (locs : List Loc) (ls : Array Slot), va_P G.1 vwCl [] H → va_D A [] → va_S A s.heap H locs → lv_has ls 7 [(0, .int x0), (1, .int x1), (2, .int x2), (3, .int x3), (4, .int x4)] → k5 x0 x1 x2 x3 x4 = some out → W p l e rm_X8_countAlike s m args below meth c H locs 0 0 (MQ below (k_Qi G A out (fun (_ : Unit) => [])) args s 0 0 A) (F0 m 5 ls [])) (k22 : Int32 → Int32 → Int32 → Int32 → Int32 → Int32 → Int32 → Option (Int32)) (hk22 : ∀ (x0 : Int32) (x1 : Int32) (x2 : Int32) (x3 : Int32) (x4 : Int32) (x5 : Int32) (x6 : Int32) (H : Heap) (locs : List Loc) (ls : Array Slot), va_P G.1 vwCl [] H → va_D A [] → va_S A s.heap H locs → lv_has ls 7 [(0, .int x0), (1, .int x1), (2, .int x2), (3, .int x3), (4, .int x4), (5, .int x5), (6, .int x6)] → k22 x0 x1 x2 x3 x4 x5 x6 = some out → W p l e rm_X8_countAlike s m args below meth c H locs 0 0 (MQ below (k_Qi G A out (fun (_ : Unit) => [])) args s 0 0 A) (F0 m 22 ls [])) : ∀ (x0 : Int32) (x1 : Int32) (x2 : Int32) (x3 : Int32) (x4 : Int32) (x6 : Int32) (s0 : Int32) (H : Heap) (locs : List Loc) (ls : Array Slot), va_P G.1 vwCl [] H → va_D A [] → va_S A s.heap H locs → lv_has ls 7 [(0, .int x0), (1, .int x1), (2, .int x2), (3, .int x3), (4, .int x4), (6, .int x6)] → f_X8_countAlike_73 k5 k22 x0 x1 x2 x3 x4 x6 s0 = some out → W p l e rm_X8_countAlike s m args below meth c H locs 0 0 (MQ below (k_Qi G A out (fun (_ : Unit) => [])) args s 0 0 A) (F0 m 73 ls [.int s0]) := by
  have hx := C0.1
  have hb := C0.2.1
  have hts := C0.2.2.2.1
  have hown := C0.2.2.2.2.1
  have hK := C0.2.2.2.2.2.2.2.2.1.1
  have hNW := C0.2.2.2.2.2.2.2.2.1.2.1
  have hSF := C0.2.2.2.2.2.2.2.2.1.2.2
  intro x0 x1 x2 x3 x4 x6 s0 H locs ls hP hD hS hl hrun
  rw [f_X8_countAlike_73] at hrun
  refine lv_istore (lv' := [(5, .int s0), (0, .int x0), (1, .int x1), (2, .int x2), (3, .int x3), (4, .int x4), (6, .int x6)]) hx hb dX8_countAlike_73 hl (by decide) rfl (fun ls hl => ?_)
  refine lv_iinc (v := x6 + 1) (lv' := [(6, .int (x6 + 1)), (5, .int s0), (0, .int x0), (1, .int x1), (2, .int x2), (3, .int x3), (4, .int x4)]) hx hb dX8_countAlike_75 hl (k := 6) rfl rfl (by decide) rfl (fun ls hl => ?_)
  refine lv_goto (tgt := 22) hx hb dX8_countAlike_78 (by decide) ?_
  exact hk22 x0 x1 x2 x3 x4 s0 (x6 + 1) _ _ _ hP hD hS (lv_sub hl [2, 3, 4, 5, 6, 1, 0] rfl) hrun
set_option maxHeartbeats 4000000 in
set_option maxRecDepth 100000 in
theorem t_X8_countAlike_68 {l : Launch} {G : k_G} {p : Program} {e : Env} {s : State} {m : MethodId} {args : Array Value} {below : List Frame} {meth : Method} {c : Code} {A : Nat → Prop} {out : Int32} (C0 : k_C G p s m args meth c A cX8_countAlike RX8 wsX8_countAlike 7 (some .int) "countAlike") (k5 : Int32 → Int32 → Int32 → Int32 → Int32 → Option (Int32)) (hk5 : ∀ (x0 : Int32) (x1 : Int32) (x2 : Int32) (x3 : Int32) (x4 : Int32) (H : Heap) (locs : List Loc) (ls : Array Slot), va_P G.1 vwCl [] H → va_D A [] → va_S A s.heap H locs → lv_has ls 7 [(0, .int x0), (1, .int x1), (2, .int x2), (3, .int x3), (4, .int x4)] → k5 x0 x1 x2 x3 x4 = some out → W p l e rm_X8_countAlike s m args below meth c H locs 0 0 (MQ below (k_Qi G A out (fun (_ : Unit) => [])) args s 0 0 A) (F0 m 5 ls [])) (k22 : Int32 → Int32 → Int32 → Int32 → Int32 → Int32 → Int32 → Option (Int32)) (hk22 : ∀ (x0 : Int32) (x1 : Int32) (x2 : Int32) (x3 : Int32) (x4 : Int32) (x5 : Int32) (x6 : Int32) (H : Heap) (locs : List Loc) (ls : Array Slot), va_P G.1 vwCl [] H → va_D A [] → va_S A s.heap H locs → lv_has ls 7 [(0, .int x0), (1, .int x1), (2, .int x2), (3, .int x3), (4, .int x4), (5, .int x5), (6, .int x6)] → k22 x0 x1 x2 x3 x4 x5 x6 = some out → W p l e rm_X8_countAlike s m args below meth c H locs 0 0 (MQ below (k_Qi G A out (fun (_ : Unit) => [])) args s 0 0 A) (F0 m 22 ls [])) : ∀ (x0 : Int32) (x1 : Int32) (x2 : Int32) (x3 : Int32) (x4 : Int32) (x6 : Int32) (H : Heap) (locs : List Loc) (ls : Array Slot), va_P G.1 vwCl [] H → va_D A [] → va_S A s.heap H locs → lv_has ls 7 [(0, .int x0), (1, .int x1), (2, .int x2), (3, .int x3), (4, .int x4), (6, .int x6)] → f_X8_countAlike_68 k5 k22 x0 x1 x2 x3 x4 x6 = some out → W p l e rm_X8_countAlike s m args below meth c H locs 0 0 (MQ below (k_Qi G A out (fun (_ : Unit) => [])) args s 0 0 A) (F0 m 68 ls []) := by
  have hx := C0.1
  have hb := C0.2.1
  have hts := C0.2.2.2.1
  have hown := C0.2.2.2.2.1
  have hK := C0.2.2.2.2.2.2.2.2.1.1
  have hNW := C0.2.2.2.2.2.2.2.2.1.2.1
  have hSF := C0.2.2.2.2.2.2.2.2.1.2.2
  intro x0 x1 x2 x3 x4 x6 H locs ls hP hD hS hl hrun
  rw [f_X8_countAlike_68] at hrun
  refine lv_iconst (v := 1) hx hb dX8_countAlike_68 (by decide) ?_
  refine lv_goto (tgt := 73) hx hb dX8_countAlike_69 (by decide) ?_
  exact t_X8_countAlike_73 C0 k5 hk5 k22 hk22 x0 x1 x2 x3 x4 x6 (1 : Int32) _ _ _ hP hD hS hl hrun
set_option maxHeartbeats 4000000 in
set_option maxRecDepth 100000 in
theorem t_X8_countAlike_92 {l : Launch} {G : k_G} {p : Program} {e : Env} {s : State} {m : MethodId} {args : Array Value} {below : List Frame} {meth : Method} {c : Code} {A : Nat → Prop} {out : Int32} (C0 : k_C G p s m args meth c A cX8_countAlike RX8 wsX8_countAlike 7 (some .int) "countAlike") (k5 : Int32 → Int32 → Int32 → Int32 → Int32 → Option (Int32)) (hk5 : ∀ (x0 : Int32) (x1 : Int32) (x2 : Int32) (x3 : Int32) (x4 : Int32) (H : Heap) (locs : List Loc) (ls : Array Slot), va_P G.1 vwCl [] H → va_D A [] → va_S A s.heap H locs → lv_has ls 7 [(0, .int x0), (1, .int x1), (2, .int x2), (3, .int x3), (4, .int x4)] → k5 x0 x1 x2 x3 x4 = some out → W p l e rm_X8_countAlike s m args below meth c H locs 0 0 (MQ below (k_Qi G A out (fun (_ : Unit) => [])) args s 0 0 A) (F0 m 5 ls [])) : ∀ (x0 : Int32) (x1 : Int32) (x2 : Int32) (x4 : Int32) (s0 : Int32) (s1 : Int32) (H : Heap) (locs : List Loc) (ls : Array Slot), va_P G.1 vwCl [] H → va_D A [] → va_S A s.heap H locs → lv_has ls 7 [(0, .int x0), (1, .int x1), (2, .int x2), (4, .int x4)] → f_X8_countAlike_92 k5 x0 x1 x2 x4 s0 s1 = some out → W p l e rm_X8_countAlike s m args below meth c H locs 0 0 (MQ below (k_Qi G A out (fun (_ : Unit) => [])) args s 0 0 A) (F0 m 92 ls [.int s1, .int s0]) := by
  have hx := C0.1
  have hb := C0.2.1
  have hts := C0.2.2.2.1
  have hown := C0.2.2.2.2.1
  have hK := C0.2.2.2.2.2.2.2.2.1.1
  have hNW := C0.2.2.2.2.2.2.2.2.1.2.1
  have hSF := C0.2.2.2.2.2.2.2.2.1.2.2
  intro x0 x1 x2 x4 s0 s1 H locs ls hP hD hS hl hrun
  rw [f_X8_countAlike_92] at hrun
  refine lv_iadd hx hb dX8_countAlike_92 ?_
  obtain ⟨n1, en, hrun⟩ := lt_inv hrun
  refine k_nmi en ?_
  clear en
  refine lv_istore_n (lv' := [(3, .int n1), (0, .int x0), (1, .int x1), (2, .int x2), (4, .int x4)]) hx hb dX8_countAlike_93 rfl hl (by decide) rfl (fun ls hl => ?_)
  refine lv_iinc (v := x4 + 1) (lv' := [(4, .int (x4 + 1)), (3, .int n1), (0, .int x0), (1, .int x1), (2, .int x2)]) hx hb dX8_countAlike_94 hl (k := 4) rfl rfl (by decide) rfl (fun ls hl => ?_)
  refine lv_goto (tgt := 5) hx hb dX8_countAlike_97 (by decide) ?_
  exact hk5 x0 x1 x2 n1 (x4 + 1) _ _ _ hP hD hS (lv_sub hl [2, 3, 4, 1, 0] rfl) hrun
set_option maxHeartbeats 4000000 in
set_option maxRecDepth 100000 in
theorem t_X8_countAlike_81 {l : Launch} {G : k_G} {p : Program} {e : Env} {s : State} {m : MethodId} {args : Array Value} {below : List Frame} {meth : Method} {c : Code} {A : Nat → Prop} {out : Int32} (C0 : k_C G p s m args meth c A cX8_countAlike RX8 wsX8_countAlike 7 (some .int) "countAlike") (k5 : Int32 → Int32 → Int32 → Int32 → Int32 → Option (Int32)) (hk5 : ∀ (x0 : Int32) (x1 : Int32) (x2 : Int32) (x3 : Int32) (x4 : Int32) (H : Heap) (locs : List Loc) (ls : Array Slot), va_P G.1 vwCl [] H → va_D A [] → va_S A s.heap H locs → lv_has ls 7 [(0, .int x0), (1, .int x1), (2, .int x2), (3, .int x3), (4, .int x4)] → k5 x0 x1 x2 x3 x4 = some out → W p l e rm_X8_countAlike s m args below meth c H locs 0 0 (MQ below (k_Qi G A out (fun (_ : Unit) => [])) args s 0 0 A) (F0 m 5 ls [])) : ∀ (x0 : Int32) (x1 : Int32) (x2 : Int32) (x3 : Int32) (x4 : Int32) (x5 : Int32) (H : Heap) (locs : List Loc) (ls : Array Slot), va_P G.1 vwCl [] H → va_D A [] → va_S A s.heap H locs → lv_has ls 7 [(0, .int x0), (1, .int x1), (2, .int x2), (3, .int x3), (4, .int x4), (5, .int x5)] → f_X8_countAlike_81 k5 x0 x1 x2 x3 x4 x5 = some out → W p l e rm_X8_countAlike s m args below meth c H locs 0 0 (MQ below (k_Qi G A out (fun (_ : Unit) => [])) args s 0 0 A) (F0 m 81 ls []) := by
  have hx := C0.1
  have hb := C0.2.1
  have hts := C0.2.2.2.1
  have hown := C0.2.2.2.2.1
  have hK := C0.2.2.2.2.2.2.2.2.1.1
  have hNW := C0.2.2.2.2.2.2.2.2.1.2.1
  have hSF := C0.2.2.2.2.2.2.2.2.1.2.2
  intro x0 x1 x2 x3 x4 x5 H locs ls hP hD hS hl hrun
  rw [f_X8_countAlike_81] at hrun
  refine lv_iload_n hx hb dX8_countAlike_81 rfl (lv_at hl 3 rfl) ?_
  refine lv_iload hx hb dX8_countAlike_82 (lv_at hl 5 rfl) ?_
  refine lv_if_eq (tgt := 91) hx hb dX8_countAlike_84 (by decide) (fun q1 => ?_) (fun q1 => ?_)
  · replace hrun := if_t q1 hrun
    refine lv_iconst (v := 0) hx hb dX8_countAlike_91 (by decide) ?_
    exact t_X8_countAlike_92 C0 k5 hk5 x0 x1 x2 x4 x3 (0 : Int32) _ _ _ hP hD hS (lv_sub hl [0, 1, 2, 4] rfl) hrun
  · replace hrun := if_f q1 hrun
    refine lv_iconst (v := 1) hx hb dX8_countAlike_87 (by decide) ?_
    refine lv_goto (tgt := 92) hx hb dX8_countAlike_88 (by decide) ?_
    exact t_X8_countAlike_92 C0 k5 hk5 x0 x1 x2 x4 x3 (1 : Int32) _ _ _ hP hD hS (lv_sub hl [0, 1, 2, 4] rfl) hrun
set_option maxHeartbeats 4000000 in
set_option maxRecDepth 100000 in
theorem t_X8_countAlike_22 {l : Launch} {G : k_G} {p : Program} {e : Env} {s : State} {m : MethodId} {args : Array Value} {below : List Frame} {meth : Method} {c : Code} {A : Nat → Prop} {out : Int32} (C0 : k_C G p s m args meth c A cX8_countAlike RX8 wsX8_countAlike 7 (some .int) "countAlike") (k5 : Int32 → Int32 → Int32 → Int32 → Int32 → Option (Int32)) (hk5 : ∀ (x0 : Int32) (x1 : Int32) (x2 : Int32) (x3 : Int32) (x4 : Int32) (H : Heap) (locs : List Loc) (ls : Array Slot), va_P G.1 vwCl [] H → va_D A [] → va_S A s.heap H locs → lv_has ls 7 [(0, .int x0), (1, .int x1), (2, .int x2), (3, .int x3), (4, .int x4)] → k5 x0 x1 x2 x3 x4 = some out → W p l e rm_X8_countAlike s m args below meth c H locs 0 0 (MQ below (k_Qi G A out (fun (_ : Unit) => [])) args s 0 0 A) (F0 m 5 ls [])) : ∀ (n : Nat) (x0 : Int32) (x1 : Int32) (x2 : Int32) (x3 : Int32) (x4 : Int32) (x5 : Int32) (x6 : Int32) (H : Heap) (locs : List Loc) (ls : Array Slot), va_P G.1 vwCl [] H → va_D A [] → va_S A s.heap H locs → lv_has ls 7 [(0, .int x0), (1, .int x1), (2, .int x2), (3, .int x3), (4, .int x4), (5, .int x5), (6, .int x6)] → f_X8_countAlike_22 k5 n x0 x1 x2 x3 x4 x5 x6 = some out → W p l e rm_X8_countAlike s m args below meth c H locs 0 0 (MQ below (k_Qi G A out (fun (_ : Unit) => [])) args s 0 0 A) (F0 m 22 ls []) := by
  have hx := C0.1
  have hb := C0.2.1
  have hts := C0.2.2.2.1
  have hown := C0.2.2.2.2.1
  have hK := C0.2.2.2.2.2.2.2.2.1.1
  have hNW := C0.2.2.2.2.2.2.2.2.1.2.1
  have hSF := C0.2.2.2.2.2.2.2.2.1.2.2
  intro n
  induction n with
  | zero =>
    intro x0 x1 x2 x3 x4 x5 x6 H locs ls hP hD hS hl hrun
    rw [f_X8_countAlike_22] at hrun
    cases hrun
  | succ n ih =>
    intro x0 x1 x2 x3 x4 x5 x6 H locs ls hP hD hS hl hrun
    rw [f_X8_countAlike_22] at hrun
    refine lv_iload hx hb dX8_countAlike_22 (lv_at hl 6 rfl) ?_
    refine lv_iload hx hb dX8_countAlike_24 (lv_at hl 4 rfl) ?_
    refine lv_icmp_ge (tgt := 81) hx hb dX8_countAlike_26 (by decide) (fun q1 => ?_) (fun q1 => ?_)
    · replace hrun := if_t q1 hrun
      exact t_X8_countAlike_81 C0 k5 hk5 x0 x1 x2 x3 x4 x5 _ _ _ hP hD hS (lv_sub hl [0, 1, 2, 3, 4, 5] rfl) hrun
    · replace hrun := if_f q1 hrun
      refine lv_iload hx hb dX8_countAlike_29 (lv_at hl 5 rfl) ?_
      refine lv_if_eq (tgt := 81) hx hb dX8_countAlike_31 (by decide) (fun q2 => ?_) (fun q2 => ?_)
      · replace hrun := if_t q2 hrun
        exact t_X8_countAlike_81 C0 k5 hk5 x0 x1 x2 x3 x4 x5 _ _ _ hP hD hS (lv_sub hl [0, 1, 2, 3, 4, 5] rfl) hrun
      · replace hrun := if_f q2 hrun
        refine lv_iload_n hx hb dX8_countAlike_34 rfl (lv_at hl 2 rfl) ?_
        refine lv_iload hx hb dX8_countAlike_35 (lv_at hl 6 rfl) ?_
        obtain ⟨t3, et3, hrun⟩ := bd_inv hrun
        refine k_calli0 C0 (k_runS (rest := []) C0 (c_X8_allows et3) (va_cwS 2 hts gX8_countAlike_X8_allows rfl rfl rfl e_X8_allows.2 ⟨Nat.le_of_ble_eq_true rfl, Nat.le_of_ble_eq_true rfl⟩) hP hD hS [] rfl (by decide) rfl hl.1 rfl (Nat.le_of_ble_eq_true rfl) dX8_countAlike_37 ⟨Nat.le_of_ble_eq_true rfl, Nat.le_of_ble_eq_true rfl⟩) hP hS (fun H locs hP hS => ?_)
        refine lv_if_eq (tgt := 68) hx hb dX8_countAlike_40 (by decide) (fun q4 => ?_) (fun q4 => ?_)
        · replace hrun := if_t q4 hrun
          exact t_X8_countAlike_68 C0 k5 hk5 (fun x0 x1 x2 x3 x4 x5 x6 => f_X8_countAlike_22 k5 n x0 x1 x2 x3 x4 x5 x6) ih x0 x1 x2 x3 x4 x6 _ _ _ hP hD hS (lv_sub hl [0, 1, 2, 3, 4, 6] rfl) hrun
        · replace hrun := if_f q4 hrun
          refine lv_iload_n hx hb dX8_countAlike_43 rfl (lv_at hl 0 rfl) ?_
          refine lv_iload_n hx hb dX8_countAlike_44 rfl (lv_at hl 1 rfl) ?_
          refine lv_iload hx hb dX8_countAlike_45 (lv_at hl 6 rfl) ?_
          obtain ⟨t5, et5, hrun⟩ := bd_inv hrun
          refine k_calli0 C0 (k_runS (rest := []) C0 (c_X8_inWay et5) (va_cwS 3 hts gX8_countAlike_X8_inWay rfl rfl rfl e_X8_inWay.2 ⟨Nat.le_of_ble_eq_true rfl, Nat.le_of_ble_eq_true rfl⟩) hP hD hS [] rfl (by decide) rfl hl.1 rfl (Nat.le_of_ble_eq_true rfl) dX8_countAlike_47 ⟨Nat.le_of_ble_eq_true rfl, Nat.le_of_ble_eq_true rfl⟩) hP hS (fun H locs hP hS => ?_)
          refine lv_iload_n hx hb dX8_countAlike_50 rfl (lv_at hl 1 rfl) ?_
          obtain ⟨t6, et6, hrun⟩ := bd_inv hrun
          refine k_calli0 C0 (k_runS (rest := []) C0 (c_X8_leastTurned et6) (va_cwS 2 hts gX8_countAlike_X8_leastTurned rfl rfl rfl e_X8_leastTurned.2 ⟨Nat.le_of_ble_eq_true rfl, Nat.le_of_ble_eq_true rfl⟩) hP hD hS [] rfl (by decide) rfl hl.1 rfl (Nat.le_of_ble_eq_true rfl) dX8_countAlike_51 ⟨Nat.le_of_ble_eq_true rfl, Nat.le_of_ble_eq_true rfl⟩) hP hS (fun H locs hP hS => ?_)
          refine lv_iload_n hx hb dX8_countAlike_54 rfl (lv_at hl 0 rfl) ?_
          refine lv_iload_n hx hb dX8_countAlike_55 rfl (lv_at hl 1 rfl) ?_
          refine lv_iload hx hb dX8_countAlike_56 (lv_at hl 4 rfl) ?_
          obtain ⟨t7, et7, hrun⟩ := bd_inv hrun
          refine k_calli0 C0 (k_runS (rest := [.int t6]) C0 (c_X8_inWay et7) (va_cwS 3 hts gX8_countAlike_X8_inWay rfl rfl rfl e_X8_inWay.2 ⟨Nat.le_of_ble_eq_true rfl, Nat.le_of_ble_eq_true rfl⟩) hP hD hS [] rfl (by decide) rfl hl.1 rfl (Nat.le_of_ble_eq_true rfl) dX8_countAlike_58 ⟨Nat.le_of_ble_eq_true rfl, Nat.le_of_ble_eq_true rfl⟩) hP hS (fun H locs hP hS => ?_)
          refine lv_iload_n hx hb dX8_countAlike_61 rfl (lv_at hl 1 rfl) ?_
          obtain ⟨t8, et8, hrun⟩ := bd_inv hrun
          refine k_calli0 C0 (k_runS (rest := [.int t6]) C0 (c_X8_leastTurned et8) (va_cwS 2 hts gX8_countAlike_X8_leastTurned rfl rfl rfl e_X8_leastTurned.2 ⟨Nat.le_of_ble_eq_true rfl, Nat.le_of_ble_eq_true rfl⟩) hP hD hS [] rfl (by decide) rfl hl.1 rfl (Nat.le_of_ble_eq_true rfl) dX8_countAlike_62 ⟨Nat.le_of_ble_eq_true rfl, Nat.le_of_ble_eq_true rfl⟩) hP hS (fun H locs hP hS => ?_)
          refine lv_icmp_eq (tgt := 72) hx hb dX8_countAlike_65 (by decide) (fun q9 => ?_) (fun q9 => ?_)
          · replace hrun := if_t q9 hrun
            refine lv_iconst (v := 0) hx hb dX8_countAlike_72 (by decide) ?_
            exact t_X8_countAlike_73 C0 k5 hk5 (fun x0 x1 x2 x3 x4 x5 x6 => f_X8_countAlike_22 k5 n x0 x1 x2 x3 x4 x5 x6) ih x0 x1 x2 x3 x4 x6 (0 : Int32) _ _ _ hP hD hS (lv_sub hl [0, 1, 2, 3, 4, 6] rfl) hrun
          · replace hrun := if_f q9 hrun
            exact t_X8_countAlike_68 C0 k5 hk5 (fun x0 x1 x2 x3 x4 x5 x6 => f_X8_countAlike_22 k5 n x0 x1 x2 x3 x4 x5 x6) ih x0 x1 x2 x3 x4 x6 _ _ _ hP hD hS (lv_sub hl [0, 1, 2, 3, 4, 6] rfl) hrun
set_option maxHeartbeats 4000000 in
set_option maxRecDepth 100000 in
theorem t_X8_countAlike_5 {l : Launch} {G : k_G} {p : Program} {e : Env} {s : State} {m : MethodId} {args : Array Value} {below : List Frame} {meth : Method} {c : Code} {A : Nat → Prop} {out : Int32} (C0 : k_C G p s m args meth c A cX8_countAlike RX8 wsX8_countAlike 7 (some .int) "countAlike") : ∀ (n : Nat) (x0 : Int32) (x1 : Int32) (x2 : Int32) (x3 : Int32) (x4 : Int32) (H : Heap) (locs : List Loc) (ls : Array Slot), va_P G.1 vwCl [] H → va_D A [] → va_S A s.heap H locs → lv_has ls 7 [(0, .int x0), (1, .int x1), (2, .int x2), (3, .int x3), (4, .int x4)] → f_X8_countAlike_5 n x0 x1 x2 x3 x4 = some out → W p l e rm_X8_countAlike s m args below meth c H locs 0 0 (MQ below (k_Qi G A out (fun (_ : Unit) => [])) args s 0 0 A) (F0 m 5 ls []) := by
  have hx := C0.1
  have hb := C0.2.1
  have hts := C0.2.2.2.1
  have hown := C0.2.2.2.2.1
  have hK := C0.2.2.2.2.2.2.2.2.1.1
  have hNW := C0.2.2.2.2.2.2.2.2.1.2.1
  have hSF := C0.2.2.2.2.2.2.2.2.1.2.2
  intro n
  induction n with
  | zero =>
    intro x0 x1 x2 x3 x4 H locs ls hP hD hS hl hrun
    rw [f_X8_countAlike_5] at hrun
    cases hrun
  | succ n ih =>
    intro x0 x1 x2 x3 x4 H locs ls hP hD hS hl hrun
    rw [f_X8_countAlike_5] at hrun
    refine lv_iload hx hb dX8_countAlike_5 (lv_at hl 4 rfl) ?_
    refine lv_iconst (v := 3) hx hb dX8_countAlike_7 (by decide) ?_
    refine lv_icmp_gt (tgt := 100) hx hb dX8_countAlike_8 (by decide) (fun q1 => ?_) (fun q1 => ?_)
    · replace hrun := if_t q1 hrun
      refine lv_iload_n hx hb dX8_countAlike_100 rfl (lv_at hl 3 rfl) ?_
      refine lv_iload_n hx hb dX8_countAlike_101 rfl (lv_at hl 0 rfl) ?_
      refine lv_iload_n hx hb dX8_countAlike_102 rfl (lv_at hl 1 rfl) ?_
      obtain ⟨t2, et2, hrun⟩ := bd_inv hrun
      refine k_calli0 C0 (k_runS (rest := [.int x3]) C0 (c_X8_period et2) (va_cwS 2 hts gX8_countAlike_X8_period rfl rfl rfl e_X8_period.2 ⟨Nat.le_of_ble_eq_true rfl, Nat.le_of_ble_eq_true rfl⟩) hP hD hS [] rfl (by decide) rfl hl.1 rfl (Nat.le_of_ble_eq_true rfl) dX8_countAlike_103 ⟨Nat.le_of_ble_eq_true rfl, Nat.le_of_ble_eq_true rfl⟩) hP hS (fun H locs hP hS => ?_)
      refine lv_imul hx hb dX8_countAlike_106 ?_
      obtain rfl := Option.some.inj hrun
      exact k_reti C0 hP hD hS () rfl rfl dX8_countAlike_107
    · replace hrun := if_f q1 hrun
      refine lv_iload_n hx hb dX8_countAlike_11 rfl (lv_at hl 2 rfl) ?_
      refine lv_iload hx hb dX8_countAlike_12 (lv_at hl 4 rfl) ?_
      obtain ⟨t3, et3, hrun⟩ := bd_inv hrun
      refine k_calli0 C0 (k_runS (rest := []) C0 (c_X8_allows et3) (va_cwS 2 hts gX8_countAlike_X8_allows rfl rfl rfl e_X8_allows.2 ⟨Nat.le_of_ble_eq_true rfl, Nat.le_of_ble_eq_true rfl⟩) hP hD hS [] rfl (by decide) rfl hl.1 rfl (Nat.le_of_ble_eq_true rfl) dX8_countAlike_14 ⟨Nat.le_of_ble_eq_true rfl, Nat.le_of_ble_eq_true rfl⟩) hP hS (fun H locs hP hS => ?_)
      refine lv_istore (lv' := [(5, .int t3), (0, .int x0), (1, .int x1), (2, .int x2), (3, .int x3), (4, .int x4)]) hx hb dX8_countAlike_17 hl (by decide) rfl (fun ls hl => ?_)
      refine lv_iconst (v := 0) hx hb dX8_countAlike_19 (by decide) ?_
      refine lv_istore (lv' := [(6, .int (0 : Int32)), (5, .int t3), (0, .int x0), (1, .int x1), (2, .int x2), (3, .int x3), (4, .int x4)]) hx hb dX8_countAlike_20 hl (by decide) rfl (fun ls hl => ?_)
      exact t_X8_countAlike_22 C0 (fun x0 x1 x2 x3 x4 => f_X8_countAlike_5 n x0 x1 x2 x3 x4) ih kFU x0 x1 x2 x3 x4 t3 (0 : Int32) _ _ _ hP hD hS (lv_sub hl [2, 3, 4, 5, 6, 1, 0] rfl) hrun
set_option maxHeartbeats 4000000 in
set_option maxRecDepth 100000 in
theorem c_X8_countAlike {l : Launch} {G : k_G} {sz : Nat} {p0 : Int32} {p1 : Int32} {p2 : Int32} {out : Int32} (hrun : f_X8_countAlike p0 p1 p2 = some out) : k_Ci l G yX8_countAlike wsX8_countAlike rm_X8_countAlike [.int p0, .int p1, .int p2] [] sz out (fun (_ : Unit) => []) 0 0 := by
  refine k_of (cc := cX8_countAlike) (nL := 7) (ret := some .int) (own := RX8) (nm := "countAlike") (by decide) rfl rfl rfl rfl ?_
  intro p e s m args below meth c ls hsz C0 hP hD hS hl
  have hl : lv_has ls 7 [(0, .int p0), (1, .int p1), (2, .int p2)] := hl
  generalize hH : s.heap = H at hP
  have hS : va_S (va_A [] sz) s.heap H [] := by rw [← hH]; exact hS
  clear hH
  generalize va_A [] sz = A at C0 hD hS ⊢
  have hx := C0.1
  have hb := C0.2.1
  have hts := C0.2.2.2.1
  have hown := C0.2.2.2.2.1
  have hK := C0.2.2.2.2.2.2.2.2.1.1
  have hNW := C0.2.2.2.2.2.2.2.2.1.2.1
  have hSF := C0.2.2.2.2.2.2.2.2.1.2.2
  rw [f_X8_countAlike] at hrun
  refine lv_iconst (v := 0) hx hb dX8_countAlike_0 (by decide) ?_
  refine lv_istore_n (lv' := [(3, .int (0 : Int32)), (0, .int p0), (1, .int p1), (2, .int p2)]) hx hb dX8_countAlike_1 rfl hl (by decide) rfl (fun ls hl => ?_)
  refine lv_iconst (v := 0) hx hb dX8_countAlike_2 (by decide) ?_
  refine lv_istore (lv' := [(4, .int (0 : Int32)), (3, .int (0 : Int32)), (0, .int p0), (1, .int p1), (2, .int p2)]) hx hb dX8_countAlike_3 hl (by decide) rfl (fun ls hl => ?_)
  exact t_X8_countAlike_5 C0 kFU p0 p1 p2 (0 : Int32) (0 : Int32) _ _ _ hP hD hS (lv_sub hl [2, 3, 4, 1, 0] rfl) hrun
theorem u_X8_fewestSlips_1 : (Cond.methodLink RX8 65 Lib.Math.min.name) ∈ wsX8_fewestSlips := List.mem_of_getElem? (i := 1) (by decide +kernel)
theorem u_X8_fewestSlips_2 : (Cond.static Lib.Math.min.name) ∈ wsX8_fewestSlips := List.mem_of_getElem? (i := 2) (by decide +kernel)
theorem u_X8_fewestSlips_3 : (Cond.initialized "java/lang/Math") ∈ wsX8_fewestSlips := List.mem_of_getElem? (i := 3) (by decide +kernel)
theorem u_X8_fewestSlips_4 : (Cond.code Lib.Math.min.name Lib.Math.min.code 2 (some .int)) ∈ wsX8_fewestSlips := List.mem_of_getElem? (i := 4) (by decide +kernel)
abbrev rm_X8_fewestSlips : Room := { frames := 4, cells := 0, slots := 0, locals := 87 }
theorem e_X8_fewestSlips : yX8_fewestSlips.cls = RX8 ∧ yX8_fewestSlips.cls ≠ "java/lang/invoke/MethodHandle" ∧ yX8_fewestSlips.cls ≠ "java/lang/invoke/VarHandle" ∧ (parseMethodDescriptor yX8_fewestSlips.desc).map (fun d => d.parameters.length) = some 4 := by decide +kernel
set_option maxHeartbeats 4000000 in
set_option maxRecDepth 100000 in
theorem t_X8_fewestSlips_67 {l : Launch} {G : k_G} {p : Program} {e : Env} {s : State} {m : MethodId} {args : Array Value} {below : List Frame} {meth : Method} {c : Code} {A : Nat → Prop} {out : Int32} (C0 : k_C G p s m args meth c A cX8_fewestSlips RX8 wsX8_fewestSlips 8 (some .int) "fewestSlips") (k6 : Int32 → Int32 → Int32 → Int32 → Int32 → Int32 → Option (Int32)) (hk6 : ∀ (x0 : Int32) (x1 : Int32) (x2 : Int32) (x3 : Int32) (x4 : Int32) (x5 : Int32) (H : Heap) (locs : List Loc) (ls : Array Slot), va_P G.1 vwCl [] H → va_D A [] → va_S A s.heap H locs → lv_has ls 8 [(0, .int x0), (1, .int x1), (2, .int x2), (3, .int x3), (4, .int x4), (5, .int x5)] → k6 x0 x1 x2 x3 x4 x5 = some out → W p l e rm_X8_fewestSlips s m args below meth c H locs 0 0 (MQ below (k_Qi G A out (fun (_ : Unit) => [])) args s 0 0 A) (F0 m 6 ls [])) : ∀ (x0 : Int32) (x1 : Int32) (x2 : Int32) (x3 : Int32) (x4 : Int32) (x5 : Int32) (H : Heap) (locs : List Loc) (ls : Array Slot), va_P G.1 vwCl [] H → va_D A [] → va_S A s.heap H locs → lv_has ls 8 [(0, .int x0), (1, .int x1), (2, .int x2), (3, .int x3), (4, .int x4), (5, .int x5)] → f_X8_fewestSlips_67 k6 x0 x1 x2 x3 x4 x5 = some out → W p l e rm_X8_fewestSlips s m args below meth c H locs 0 0 (MQ below (k_Qi G A out (fun (_ : Unit) => [])) args s 0 0 A) (F0 m 67 ls []) := by
  have hx := C0.1
  have hb := C0.2.1
  have hts := C0.2.2.2.1
  have hown := C0.2.2.2.2.1
  have hK := C0.2.2.2.2.2.2.2.2.1.1
  have hNW := C0.2.2.2.2.2.2.2.2.1.2.1
  have hSF := C0.2.2.2.2.2.2.2.2.1.2.2
  intro x0 x1 x2 x3 x4 x5 H locs ls hP hD hS hl hrun
  rw [f_X8_fewestSlips_67] at hrun
  refine lv_iinc (v := x5 + 1) (lv' := [(5, .int (x5 + 1)), (0, .int x0), (1, .int x1), (2, .int x2), (3, .int x3), (4, .int x4)]) hx hb dX8_fewestSlips_67 hl (k := 5) rfl rfl (by decide) rfl (fun ls hl => ?_)
  refine lv_goto (tgt := 6) hx hb dX8_fewestSlips_70 (by decide) ?_
  exact hk6 x0 x1 x2 x3 x4 (x5 + 1) _ _ _ hP hD hS (lv_sub hl [1, 2, 3, 4, 5, 0] rfl) hrun
set_option maxHeartbeats 4000000 in
set_option maxRecDepth 100000 in
theorem t_X8_fewestSlips_24 {l : Launch} {G : k_G} {p : Program} {e : Env} {s : State} {m : MethodId} {args : Array Value} {below : List Frame} {meth : Method} {c : Code} {A : Nat → Prop} {out : Int32} (C0 : k_C G p s m args meth c A cX8_fewestSlips RX8 wsX8_fewestSlips 8 (some .int) "fewestSlips") (k6 : Int32 → Int32 → Int32 → Int32 → Int32 → Int32 → Option (Int32)) (hk6 : ∀ (x0 : Int32) (x1 : Int32) (x2 : Int32) (x3 : Int32) (x4 : Int32) (x5 : Int32) (H : Heap) (locs : List Loc) (ls : Array Slot), va_P G.1 vwCl [] H → va_D A [] → va_S A s.heap H locs → lv_has ls 8 [(0, .int x0), (1, .int x1), (2, .int x2), (3, .int x3), (4, .int x4), (5, .int x5)] → k6 x0 x1 x2 x3 x4 x5 = some out → W p l e rm_X8_fewestSlips s m args below meth c H locs 0 0 (MQ below (k_Qi G A out (fun (_ : Unit) => [])) args s 0 0 A) (F0 m 6 ls [])) : ∀ (n : Nat) (x0 : Int32) (x1 : Int32) (x2 : Int32) (x3 : Int32) (x4 : Int32) (x5 : Int32) (x6 : Int32) (x7 : Int32) (H : Heap) (locs : List Loc) (ls : Array Slot), va_P G.1 vwCl [] H → va_D A [] → va_S A s.heap H locs → lv_has ls 8 [(0, .int x0), (1, .int x1), (2, .int x2), (3, .int x3), (4, .int x4), (5, .int x5), (6, .int x6), (7, .int x7)] → f_X8_fewestSlips_24 k6 n x0 x1 x2 x3 x4 x5 x6 x7 = some out → W p l e rm_X8_fewestSlips s m args below meth c H locs 0 0 (MQ below (k_Qi G A out (fun (_ : Unit) => [])) args s 0 0 A) (F0 m 24 ls []) := by
  have hx := C0.1
  have hb := C0.2.1
  have hts := C0.2.2.2.1
  have hown := C0.2.2.2.2.1
  have hK := C0.2.2.2.2.2.2.2.2.1.1
  have hNW := C0.2.2.2.2.2.2.2.2.1.2.1
  have hSF := C0.2.2.2.2.2.2.2.2.1.2.2
  intro n
  induction n with
  | zero =>
    intro x0 x1 x2 x3 x4 x5 x6 x7 H locs ls hP hD hS hl hrun
    rw [f_X8_fewestSlips_24] at hrun
    cases hrun
  | succ n ih =>
    intro x0 x1 x2 x3 x4 x5 x6 x7 H locs ls hP hD hS hl hrun
    rw [f_X8_fewestSlips_24] at hrun
    refine lv_iload hx hb dX8_fewestSlips_24 (lv_at hl 7 rfl) ?_
    refine lv_iload_n hx hb dX8_fewestSlips_26 rfl (lv_at hl 2 rfl) ?_
    refine lv_icmp_ge (tgt := 67) hx hb dX8_fewestSlips_27 (by decide) (fun q1 => ?_) (fun q1 => ?_)
    · replace hrun := if_t q1 hrun
      exact t_X8_fewestSlips_67 C0 k6 hk6 x0 x1 x2 x3 x4 x5 _ _ _ hP hD hS (lv_sub hl [0, 1, 2, 3, 4, 5] rfl) hrun
    · replace hrun := if_f q1 hrun
      refine lv_iload_n hx hb dX8_fewestSlips_30 rfl (lv_at hl 3 rfl) ?_
      refine lv_iload hx hb dX8_fewestSlips_31 (lv_at hl 5 rfl) ?_
      obtain ⟨t2, et2, hrun⟩ := bd_inv hrun
      refine k_calli0 C0 (k_runS (rest := []) C0 (c_X8_allows et2) (va_cwS 2 hts gX8_fewestSlips_X8_allows rfl rfl rfl e_X8_allows.2 ⟨Nat.le_of_ble_eq_true rfl, Nat.le_of_ble_eq_true rfl⟩) hP hD hS [] rfl (by decide) rfl hl.1 rfl (Nat.le_of_ble_eq_true rfl) dX8_fewestSlips_33 ⟨Nat.le_of_ble_eq_true rfl, Nat.le_of_ble_eq_true rfl⟩) hP hS (fun H locs hP hS => ?_)
      refine lv_if_eq (tgt := 67) hx hb dX8_fewestSlips_36 (by decide) (fun q3 => ?_) (fun q3 => ?_)
      · replace hrun := if_t q3 hrun
        exact t_X8_fewestSlips_67 C0 k6 hk6 x0 x1 x2 x3 x4 x5 _ _ _ hP hD hS (lv_sub hl [0, 1, 2, 3, 4, 5] rfl) hrun
      · replace hrun := if_f q3 hrun
        refine lv_iload hx hb dX8_fewestSlips_39 (lv_at hl 4 rfl) ?_
        refine lv_iload_n hx hb dX8_fewestSlips_41 rfl (lv_at hl 0 rfl) ?_
        refine lv_iload hx hb dX8_fewestSlips_42 (lv_at hl 6 rfl) ?_
        refine lv_ixor hx hb dX8_fewestSlips_44 ?_
        obtain ⟨t4, et4, hrun⟩ := bd_inv hrun
        refine k_calli0 C0 (k_runS (rest := [.int x4]) C0 (c_J6_bitCount_0f7a4 et4) (va_cwS 1 hts gX8_fewestSlips_J6_bitCount_0f7a4 rfl rfl rfl e_J6_bitCount_0f7a4.2 ⟨Nat.le_of_ble_eq_true rfl, Nat.le_of_ble_eq_true rfl⟩) hP hD hS [] rfl (by decide) rfl hl.1 rfl (Nat.le_of_ble_eq_true rfl) dX8_fewestSlips_45 ⟨Nat.le_of_ble_eq_true rfl, Nat.le_of_ble_eq_true rfl⟩) hP hS (fun H locs hP hS => ?_)
        refine va_mmin hx hb (C0.2.2.2.2.2.2.1.trans hl.1.symm) hown (hts _ u_X8_fewestSlips_1) (hts _ u_X8_fewestSlips_2) (hts _ u_X8_fewestSlips_3) (hts _ u_X8_fewestSlips_4) (Nat.le_of_ble_eq_true rfl) (Nat.le_of_ble_eq_true rfl) (Nat.le_of_ble_eq_true rfl) (Nat.le_of_ble_eq_true rfl) dX8_fewestSlips_48 ?_
        obtain ⟨n5, en, hrun⟩ := lt_inv hrun
        refine k_nmi en ?_
        clear en
        refine lv_istore (lv' := [(4, .int n5), (0, .int x0), (1, .int x1), (2, .int x2), (3, .int x3), (5, .int x5), (6, .int x6), (7, .int x7)]) hx hb dX8_fewestSlips_51 hl (by decide) rfl (fun ls hl => ?_)
        refine lv_iload hx hb dX8_fewestSlips_53 (lv_at hl 6 rfl) ?_
        refine lv_iload_n hx hb dX8_fewestSlips_55 rfl (lv_at hl 3 rfl) ?_
        obtain ⟨t6, et6, hrun⟩ := bd_inv hrun
        refine k_calli0 C0 (k_runS (rest := []) C0 (c_X8_turned et6) (va_cwS 2 hts gX8_fewestSlips_X8_turned rfl rfl rfl e_X8_turned.2 ⟨Nat.le_of_ble_eq_true rfl, Nat.le_of_ble_eq_true rfl⟩) hP hD hS [] rfl (by decide) rfl hl.1 rfl (Nat.le_of_ble_eq_true rfl) dX8_fewestSlips_56 ⟨Nat.le_of_ble_eq_true rfl, Nat.le_of_ble_eq_true rfl⟩) hP hS (fun H locs hP hS => ?_)
        refine lv_istore (lv' := [(6, .int t6), (4, .int n5), (0, .int x0), (1, .int x1), (2, .int x2), (3, .int x3), (5, .int x5), (7, .int x7)]) hx hb dX8_fewestSlips_59 hl (by decide) rfl (fun ls hl => ?_)
        refine lv_iinc (v := x7 + 1) (lv' := [(7, .int (x7 + 1)), (6, .int t6), (4, .int n5), (0, .int x0), (1, .int x1), (2, .int x2), (3, .int x3), (5, .int x5)]) hx hb dX8_fewestSlips_61 hl (k := 7) rfl rfl (by decide) rfl (fun ls hl => ?_)
        refine lv_goto (tgt := 24) hx hb dX8_fewestSlips_64 (by decide) ?_
        exact ih x0 x1 x2 x3 n5 x5 t6 (x7 + 1) _ _ _ hP hD hS (lv_sub hl [3, 4, 5, 6, 2, 7, 1, 0] rfl) hrun
set_option maxHeartbeats 4000000 in
set_option maxRecDepth 100000 in
theorem t_X8_fewestSlips_6 {l : Launch} {G : k_G} {p : Program} {e : Env} {s : State} {m : MethodId} {args : Array Value} {below : List Frame} {meth : Method} {c : Code} {A : Nat → Prop} {out : Int32} (C0 : k_C G p s m args meth c A cX8_fewestSlips RX8 wsX8_fewestSlips 8 (some .int) "fewestSlips") : ∀ (n : Nat) (x0 : Int32) (x1 : Int32) (x2 : Int32) (x3 : Int32) (x4 : Int32) (x5 : Int32) (H : Heap) (locs : List Loc) (ls : Array Slot), va_P G.1 vwCl [] H → va_D A [] → va_S A s.heap H locs → lv_has ls 8 [(0, .int x0), (1, .int x1), (2, .int x2), (3, .int x3), (4, .int x4), (5, .int x5)] → f_X8_fewestSlips_6 n x0 x1 x2 x3 x4 x5 = some out → W p l e rm_X8_fewestSlips s m args below meth c H locs 0 0 (MQ below (k_Qi G A out (fun (_ : Unit) => [])) args s 0 0 A) (F0 m 6 ls []) := by
  have hx := C0.1
  have hb := C0.2.1
  have hts := C0.2.2.2.1
  have hown := C0.2.2.2.2.1
  have hK := C0.2.2.2.2.2.2.2.2.1.1
  have hNW := C0.2.2.2.2.2.2.2.2.1.2.1
  have hSF := C0.2.2.2.2.2.2.2.2.1.2.2
  intro n
  induction n with
  | zero =>
    intro x0 x1 x2 x3 x4 x5 H locs ls hP hD hS hl hrun
    rw [f_X8_fewestSlips_6] at hrun
    cases hrun
  | succ n ih =>
    intro x0 x1 x2 x3 x4 x5 H locs ls hP hD hS hl hrun
    rw [f_X8_fewestSlips_6] at hrun
    refine lv_iload hx hb dX8_fewestSlips_6 (lv_at hl 5 rfl) ?_
    refine lv_iconst (v := 3) hx hb dX8_fewestSlips_8 (by decide) ?_
    refine lv_icmp_gt (tgt := 73) hx hb dX8_fewestSlips_9 (by decide) (fun q1 => ?_) (fun q1 => ?_)
    · replace hrun := if_t q1 hrun
      refine lv_iload hx hb dX8_fewestSlips_73 (lv_at hl 4 rfl) ?_
      obtain rfl := Option.some.inj hrun
      exact k_reti C0 hP hD hS () rfl rfl dX8_fewestSlips_75
    · replace hrun := if_f q1 hrun
      refine lv_iload_n hx hb dX8_fewestSlips_12 rfl (lv_at hl 1 rfl) ?_
      refine lv_iload_n hx hb dX8_fewestSlips_13 rfl (lv_at hl 2 rfl) ?_
      refine lv_iload hx hb dX8_fewestSlips_14 (lv_at hl 5 rfl) ?_
      obtain ⟨t2, et2, hrun⟩ := bd_inv hrun
      refine k_calli0 C0 (k_runS (rest := []) C0 (c_X8_inWay et2) (va_cwS 3 hts gX8_fewestSlips_X8_inWay rfl rfl rfl e_X8_inWay.2 ⟨Nat.le_of_ble_eq_true rfl, Nat.le_of_ble_eq_true rfl⟩) hP hD hS [] rfl (by decide) rfl hl.1 rfl (Nat.le_of_ble_eq_true rfl) dX8_fewestSlips_16 ⟨Nat.le_of_ble_eq_true rfl, Nat.le_of_ble_eq_true rfl⟩) hP hS (fun H locs hP hS => ?_)
      refine lv_istore (lv' := [(6, .int t2), (0, .int x0), (1, .int x1), (2, .int x2), (3, .int x3), (4, .int x4), (5, .int x5)]) hx hb dX8_fewestSlips_19 hl (by decide) rfl (fun ls hl => ?_)
      refine lv_iconst (v := 0) hx hb dX8_fewestSlips_21 (by decide) ?_
      refine lv_istore (lv' := [(7, .int (0 : Int32)), (6, .int t2), (0, .int x0), (1, .int x1), (2, .int x2), (3, .int x3), (4, .int x4), (5, .int x5)]) hx hb dX8_fewestSlips_22 hl (by decide) rfl (fun ls hl => ?_)
      exact t_X8_fewestSlips_24 C0 (fun x0 x1 x2 x3 x4 x5 => f_X8_fewestSlips_6 n x0 x1 x2 x3 x4 x5) ih kFU x0 x1 x2 x3 x4 x5 t2 (0 : Int32) _ _ _ hP hD hS (lv_sub hl [2, 3, 4, 5, 6, 7, 1, 0] rfl) hrun
set_option maxHeartbeats 4000000 in
set_option maxRecDepth 100000 in
theorem c_X8_fewestSlips {l : Launch} {G : k_G} {sz : Nat} {p0 : Int32} {p1 : Int32} {p2 : Int32} {p3 : Int32} {out : Int32} (hrun : f_X8_fewestSlips p0 p1 p2 p3 = some out) : k_Ci l G yX8_fewestSlips wsX8_fewestSlips rm_X8_fewestSlips [.int p0, .int p1, .int p2, .int p3] [] sz out (fun (_ : Unit) => []) 0 0 := by
  refine k_of (cc := cX8_fewestSlips) (nL := 8) (ret := some .int) (own := RX8) (nm := "fewestSlips") (by decide) rfl rfl rfl rfl ?_
  intro p e s m args below meth c ls hsz C0 hP hD hS hl
  have hl : lv_has ls 8 [(0, .int p0), (1, .int p1), (2, .int p2), (3, .int p3)] := hl
  generalize hH : s.heap = H at hP
  have hS : va_S (va_A [] sz) s.heap H [] := by rw [← hH]; exact hS
  clear hH
  generalize va_A [] sz = A at C0 hD hS ⊢
  have hx := C0.1
  have hb := C0.2.1
  have hts := C0.2.2.2.1
  have hown := C0.2.2.2.2.1
  have hK := C0.2.2.2.2.2.2.2.2.1.1
  have hNW := C0.2.2.2.2.2.2.2.2.1.2.1
  have hSF := C0.2.2.2.2.2.2.2.2.1.2.2
  rw [f_X8_fewestSlips] at hrun
  refine lv_iload_n hx hb dX8_fewestSlips_0 rfl (lv_at hl 2 rfl) ?_
  refine lv_istore (lv' := [(4, .int p2), (0, .int p0), (1, .int p1), (2, .int p2), (3, .int p3)]) hx hb dX8_fewestSlips_1 hl (by decide) rfl (fun ls hl => ?_)
  refine lv_iconst (v := 0) hx hb dX8_fewestSlips_3 (by decide) ?_
  refine lv_istore (lv' := [(5, .int (0 : Int32)), (4, .int p2), (0, .int p0), (1, .int p1), (2, .int p2), (3, .int p3)]) hx hb dX8_fewestSlips_4 hl (by decide) rfl (fun ls hl => ?_)
  exact t_X8_fewestSlips_6 C0 kFU p0 p1 p2 p3 p2 (0 : Int32) _ _ _ hP hD hS (lv_sub hl [2, 3, 4, 5, 1, 0] rfl) hrun
